import java.util.List;

/** Tests of the document's sentences: each with a run of calls that a program which breaks it does not pass. */
abstract class Edges {
  private static int sentences = 0;
  private static int wrong = 0;
  private static String part = "";

  /** The part of the document in which the sentences stand that follow. */
  static void in(String name) { part = name; }

  static void edge(String sentence, String script) {
    sentences++;
    List<String> faults = Script.faultsOf(script);
    if (!faults.isEmpty()) {
      wrong++;
      System.out.println(part + ": \"" + sentence + "\"");
      for (String fault : faults) System.out.println("    " + fault);
    }
  }

  static void finish() {
    System.out.println(wrong == 0 ? sentences + " sentences hold at their edges" : wrong + " sentences of " + sentences + " do not hold");
    if (wrong != 0) System.exit(1);
  }
}
