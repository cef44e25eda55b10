import java.lang.reflect.InvocationTargetException;
import java.lang.reflect.Method;
import java.util.ArrayList;
import java.util.HashMap;
import java.util.LinkedHashMap;
import java.util.List;
import java.util.Map;

/**
 * A run of calls on a new object, written as text, a line each:
 *
 *   write(0, 1, 4, 22)              the call is not refused (answers 0 or more)
 *   write(0, 9, 4, 22) = PLACE      the answer that is due
 *   30 * write(0, 1, 4, 22)         thirty times
 *   ! write(0, 9, 4, 22) = PLACE    the answer, and that the call changes nothing
 *   ! fill(0, 4, 1) = -102 at 2 1 PLACE   as well, but for THE STOP
 *   text 0.0<41;0.1=0.0:4 = 2       the text is fed and run
 *   row 0 = i 1 2 3                 the row is spelled so, on THE PAPER too
 *   latch = 4 22 22                 THE LATCH: kind, value, amount
 *   stop = 2 1 PLACE                THE STOP: j, side, refusal
 *   scene                           the calls of SCENE
 *
 * Numbers may be names (NONE, MIN, ..), f:0.5 and d:0.5 the bits of reals.
 * That a call changes nothing is seen on two more objects: one that has done
 * the lines ahead of it, one that has done the call too; all that a caller can
 * find out of both is the same. A refused read(), write(), real(), box() or
 * look() is counted, which is the one thing that may differ.
 */
final class Script {
  /** Some of all that a bank can hold, so that a change is seen. */
  static final String SCENE = """
      make(0, 4, 5)
      thing(2, 0, -7)
      thing(3, 1, 4)
      make(4, 8, 4)
      make(5, 9, 3)
      same(6, 0)
      make(7, 7, 3)
      make(8, 0, 0)
      make(9, 5, 32)
      window(0, 6, 1, 1, 2, 8)
      write(0, 0, 4, 11)
      image()
      window(0, 0, 0, 1, 5, 4)
      window(1, 4, 3, -1, 4, 8)
      window(2, 9, 0, 1, 3, 5)
      window(3, 9, 30, 1, 4, 5)
      window(4, 1, 0, 1, 3, 8)
      window(5, 2, 0, 1, 3, 8)
      write(0, 1, 4, 22)
      box(4, 0, 10, 3)
      box(4, 1, 4, 5)
      real(7, 2, 7, 1, 3)
      box(5, 1, 9, 8)
      fill(2, 5, 6)
      write(6, 2, 4, 33)
      write(0, 3, 4, 44)
      undo()
      undo()
      read(0, 1, 5)
      fill(3, 5, 1) = -102
      spell(4)
      read(1, 0, 0) = NOTHING
      2 * read(2, 0, 0) = KIND
      3 * read(0, 9, 4) = PLACE
      """;

  private static final int MOST_CALLS = 512;
  private static final List<String> COUNTED = List.of("read", "write", "real", "box", "look");
  private static final Map<String, Long> NAMES = names();
  private static final Map<String, Method> CALLS = calls();

  private final List<String> lines = new ArrayList<>();
  private final List<String> faults = new ArrayList<>();
  private ViewedBank bank = new ViewedBank();
  private int made = 0;
  private String line = "";
  private boolean quiet = false;

  private Script(List<String> lines) { this.lines.addAll(lines); }

  /** What is not as due in the run of a text: nothing, if all is well. */
  static List<String> faultsOf(String text) {
    List<String> lines = new ArrayList<>();
    for (String line : text.split("\n")) {
      if (line.strip().equals("scene")) {
        for (String of : SCENE.split("\n")) lines.add(of.strip());
      } else if (!line.isBlank()) {
        lines.add(line.stripLeading());
      }
    }
    Script script = new Script(lines);
    for (int k = 0; k < lines.size(); k++) script.doLine(k);
    return script.faults;
  }

  // ---- one line

  private void doLine(int k) {
    line = lines.get(k);
    boolean changesNothing = line.startsWith("! ");
    if (changesNothing && !quiet) compareTwins(k);
    String rest = changesNothing ? line.substring(2) : line;
    int times = 1;
    if (rest.matches("\\d+ \\* .*")) {
      times = Integer.parseInt(rest.substring(0, rest.indexOf(' ')));
      rest = rest.substring(rest.indexOf('*') + 2);
    }
    for (int t = 0; t < times; t++) doOnce(rest);
  }

  private void doOnce(String rest) {
    int cut = rest.lastIndexOf(" = ");
    String what = cut < 0 ? rest : rest.substring(0, cut);
    String want = cut < 0 ? "" : rest.substring(cut + 3).strip();
    if (what.startsWith("row ")) dueRow(Integer.parseInt(what.substring(4)), want);
    else if (what.equals("latch")) dueAll("latch", want);
    else if (what.equals("stop")) dueAll("stop", want);
    else if (what.startsWith("text ") || what.equals("text")) dueMove(text(what.substring(Math.min(5, what.length()))), want);
    else if (cut < 0) dueDone(call(what));
    else dueMove(call(what), want);
  }

  private void dueDone(long got) {
    if (got < 0) tell("answered " + got + ", is not due to be refused");
  }

  private void dueMove(long got, String want) {
    int at = want.indexOf(" at ");
    due("answered", got, number(at < 0 ? want : want.substring(0, at)));
    if (at >= 0) dueAll("stop", want.substring(at + 4));
  }

  private void dueAll(String name, String want) {
    String[] all = want.split(" ");
    for (int what = 0; what < all.length; what++) due(name + "(" + what + ") is", call(name + "(" + what + ")"), number(all[what]));
  }

  private void dueRow(int slot, String want) {
    due("spell answered", call("spell(" + slot + ")"), want.length());
    StringBuilder got = new StringBuilder();
    for (int i = 0; i < want.length(); i++) got.append((char) call("paper(" + i + ")"));
    if (!got.toString().equals(want)) tell("is spelled " + got);
    due("the byte behind is", call("paper(" + want.length() + ")"), -1);
  }

  private void due(String what, long got, long want) {
    if (got != want) tell(what + " " + got + ", due is " + want);
  }

  private void tell(String what) {
    if (!quiet) faults.add(line + ": " + what);
  }

  // ---- calls

  private long text(String letters) {
    for (int k = 0; k < letters.length(); k++) call("feed(" + (int) letters.charAt(k) + ")");
    return call("run()");
  }

  private long call(String words) {
    int open = words.indexOf('(');
    String name = words.substring(0, open);
    String inside = words.substring(open + 1, words.lastIndexOf(')'));
    String[] given = inside.isBlank() ? new String[0] : inside.split(",");
    Method method = CALLS.get(name);
    if (method == null || method.getParameterCount() != given.length) throw new IllegalArgumentException(line);
    Object[] arguments = new Object[given.length];
    for (int k = 0; k < given.length; k++) {
      long value = number(given[k].strip());
      if (method.getParameterTypes()[k] == long.class) arguments[k] = value;
      else arguments[k] = Math.toIntExact(value);
    }
    if (++made > MOST_CALLS) throw new IllegalStateException("more than 512 calls: " + line);
    try {
      return ((Number) method.invoke(bank, arguments)).longValue();
    } catch (InvocationTargetException thrown) {
      tell("threw " + thrown.getCause());
      return Long.MIN_VALUE + 1;
    } catch (IllegalAccessException never) {
      throw new IllegalStateException(never);
    }
  }

  static long number(String word) {
    if (word.startsWith("f:")) return Float.floatToIntBits(Float.parseFloat(word.substring(2)));
    if (word.startsWith("d:")) return Double.doubleToLongBits(Double.parseDouble(word.substring(2)));
    Long named = NAMES.get(word);
    return named != null ? named : Long.parseLong(word);
  }

  private static Map<String, Method> calls() {
    Map<String, Method> all = new HashMap<>();
    for (Method method : ViewedBank.class.getDeclaredMethods()) {
      if (java.lang.reflect.Modifier.isPublic(method.getModifiers())) all.put(method.getName(), method);
    }
    return all;
  }

  private static Map<String, Long> names() {
    Map<String, Long> all = new HashMap<>();
    String[] words = {"NONE", "BAD", "STATE", "FULL", "ABSENT", "NOTHING", "KIND", "PLACE", "SIZE"};
    long[] numbers = {-1, -2, -3, -4, -5, -11, -12, -13, -14};
    for (int k = 0; k < words.length; k++) all.put(words[k], numbers[k]);
    all.put("NO", Long.MIN_VALUE);
    all.put("MIN", (long) Integer.MIN_VALUE);
    all.put("MAX", (long) Integer.MAX_VALUE);
    all.put("LEAST", Long.MIN_VALUE);
    all.put("MOST", Long.MAX_VALUE);
    return all;
  }

  // ---- that a call changes nothing

  private void compareTwins(int k) {
    Map<String, Long> without = findings(k);
    Map<String, Long> with = findings(k + 1);
    String words = line.substring(2);
    int cut = words.lastIndexOf(" = ");
    String want = words.substring(cut + 3);
    int at = want.indexOf(" at ");
    if (at >= 0) {
      String[] stop = want.substring(at + 4).strip().split(" ");
      for (int what = 0; what < 3; what++) without.put("stop(" + what + ")", number(stop[what]));
    } else if (COUNTED.contains(words.substring(0, Math.max(0, words.indexOf('('))))) {
      long answer = number(want.strip());
      if (answer >= -13 && answer <= -11) without.merge("count(" + -answer + ")", 1L, Long::sum);
    }
    for (Map.Entry<String, Long> found : without.entrySet()) {
      Long other = with.get(found.getKey());
      if (!found.getValue().equals(other)) tell("then " + found.getKey() + " is " + other + ", due is " + found.getValue());
    }
    if (with.size() != without.size()) tell("then other things can be found out");
  }

  /** All that can be found out of a new object that has done the first lines. */
  private Map<String, Long> findings(int many) {
    Script twin = new Script(lines);
    twin.quiet = true;
    for (int k = 0; k < many; k++) twin.doLine(k);
    Map<String, Long> found = new LinkedHashMap<>();
    twin.findSlots(found);
    for (int what = 0; what < 3; what++) {
      twin.find(found, "", "latch(" + what + ")");
      twin.find(found, "", "stop(" + what + ")");
    }
    for (int what = 0; what <= 13; what++) twin.find(found, "", "count(" + what + ")");
    long letters = twin.call("count(7)");
    for (int i = 0; i < letters && i < 20; i++) twin.find(found, "", "paper(" + i + ")");
    twin.findActs(found);
    twin.findTapeAndImage(found);
    return found;
  }

  private long find(Map<String, Long> found, String when, String words) {
    long got = call(words);
    found.put(when + words, got);
    return got;
  }

  private void findSlots(Map<String, Long> found) {
    find(found, "", "digest(-1)");
    for (int s = 0; s < 10; s++) for (int what = 0; what <= 4; what++) find(found, "", "of(" + s + ", " + what + ")");
    findWindows(found, "");
  }

  private void findWindows(Map<String, Long> found, String when) {
    for (int w = 0; w < 6; w++) for (int what = 0; what < 5; what++) find(found, when, "windowOf(" + w + ", " + what + ")");
  }

  private void findActs(Map<String, Long> found) {
    long acts = call("count(4)");
    for (int i = 0; i < acts && i < 8; i++) {
      long cells = find(found, "", "act(" + i + ", 0)");
      for (int k = 0; k < cells && k < 4; k++) find(found, "", "act(" + i + ", " + (10 + k) + ")");
    }
    long undone = call("count(5)");
    for (int i = 0; i < undone; i++) {
      find(found, "done again " + i + ", ", "redo()");
      find(found, "done again " + i + ", ", "digest(-1)");
    }
    find(found, "when all is done again, ", "redo()");
    for (int i = 0; i < acts + undone; i++) {
      find(found, "undone " + i + ", ", "undo()");
      find(found, "undone " + i + ", ", "digest(-1)");
    }
    find(found, "when all is undone, ", "undo()");
  }

  private void findTapeAndImage(Map<String, Long> found) {
    find(found, "", "feed(53)");
    find(found, "", "run()");
    find(found, "run, ", "digest(-1)");
    find(found, "", "back()");
    find(found, "laid back, ", "digest(-1)");
    for (int s = 0; s < 10; s++) find(found, "laid back, ", "of(" + s + ", 2)");
    findWindows(found, "laid back, ");
  }
}
