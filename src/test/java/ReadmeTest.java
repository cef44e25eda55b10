import java.io.IOException;
import java.nio.file.Files;
import java.nio.file.Path;
import java.util.ArrayList;
import java.util.List;
import java.util.regex.Matcher;
import java.util.regex.Pattern;

/** The example in README.md: each call answers what stands behind it, and no call of the face is left out. */
public final class ReadmeTest {
  private static final Pattern CALL = Pattern.compile("bank\\.(\\w+\\(.*\\)); +// -> (-?\\d+).*");
  private static final List<String> NOT_SHOWN = List.of("windowOf", "fault", "digest");

  /** The example's calls as a script. */
  private static String script(List<String> lines) {
    StringBuilder all = new StringBuilder();
    for (String line : lines) {
      if (!line.startsWith("bank.")) continue;
      Matcher found = CALL.matcher(line);
      if (!found.matches()) throw new IllegalStateException("no answer is told: " + line);
      all.append(withoutLetters(found.group(1))).append(" = ").append(found.group(2)).append('\n');
    }
    return all.toString();
  }

  /** A call with the numbers of the letters that it is given. */
  private static String withoutLetters(String call) {
    Matcher letter = Pattern.compile("'(.)'").matcher(call);
    return letter.replaceAll(found -> Integer.toString(found.group(1).charAt(0)));
  }

  private static List<String> notNamed(String script) {
    List<String> left = new ArrayList<>();
    for (java.lang.reflect.Method call : ViewedBank.class.getDeclaredMethods()) {
      boolean isPublic = java.lang.reflect.Modifier.isPublic(call.getModifiers());
      boolean isShown = script.startsWith(call.getName() + "(") || script.contains("\n" + call.getName() + "(");
      if (isPublic && !isShown && !NOT_SHOWN.contains(call.getName())) left.add(call.getName() + "() is not shown");
    }
    return left;
  }

  public static void main(String[] args) throws IOException {
    String script = script(Files.readAllLines(Path.of("README.md")));
    List<String> faults = new ArrayList<>(Script.faultsOf(script));
    faults.addAll(notNamed(script));
    for (String fault : faults) System.out.println(fault);
    System.out.println(faults.isEmpty() ? "README.md's example holds" : "README.md's example does not hold");
    if (!faults.isEmpty()) System.exit(1);
  }
}
