import java.io.IOException;
import java.lang.reflect.Constructor;
import java.lang.reflect.Field;
import java.lang.reflect.Method;
import java.lang.reflect.Modifier;
import java.nio.file.Files;
import java.nio.file.Path;
import java.util.ArrayList;
import java.util.HashSet;
import java.util.List;
import java.util.Set;
import java.util.regex.Matcher;
import java.util.regex.Pattern;

/** What of LANGUAGE.md can be seen in the class itself and in its words; the number of the rule is told. */
public final class LanguageTest {
  private static final Path SOURCE = Path.of("src/main/java/ViewedBank.java");
  // Narrower than the rules: what the class has no need of, though it were allowed, is looked at by whoever needs it.
  private static final Set<String> LIBRARY = Set.of("String", "Math", "Math.min", "Math.max",
      "Integer.MIN_VALUE", "Integer.MAX_VALUE", "Long.MIN_VALUE", "Long.MAX_VALUE", "Integer", "Long");
  private static final Set<Class<?>> TYPES = Set.of(int.class, long.class, boolean.class, byte.class, char.class, String.class,
      int[].class, long[].class, byte[].class, boolean[].class);
  private static final int MOST_CLASSES = 12, MOST_FIELDS = 20, MOST_PARAMETERS = 7, MOST_LINES = 60;

  private static int wrong = 0;

  private static void due(int rule, String what, boolean holds) {
    if (holds) return;
    wrong++;
    System.out.println("rule " + rule + ": " + what);
  }

  // ---- by reflection

  private static List<Class<?>> classes() {
    List<Class<?>> all = new ArrayList<>();
    all.add(ViewedBank.class);
    for (int k = 0; k < all.size(); k++) all.addAll(List.of(all.get(k).getDeclaredClasses()));
    return all;
  }

  private static void inside() {
    due(11, "there are more than twelve classes", classes().size() <= MOST_CLASSES);
    for (Class<?> each : classes()) {
      if (each == ViewedBank.class) continue;
      int is = each.getModifiers();
      due(1, each.getName() + " is public or protected", !Modifier.isPublic(is) && !Modifier.isProtected(is));
      due(1, each.getName() + " is not static", Modifier.isStatic(is));
    }
  }

  private static void fields() {
    for (Class<?> each : classes()) {
      int many = 0;
      for (Field field : each.getDeclaredFields()) {
        String name = each.getName() + "." + field.getName();
        Class<?> type = field.getType();
        Class<?> part = type.isArray() ? type.getComponentType() : type;
        due(3, name + " is of another type", TYPES.contains(type) || classes().contains(part));
        if (Modifier.isStatic(field.getModifiers())) due(5, name + " is not final", Modifier.isFinal(field.getModifiers()));
        else many++;
      }
      due(11, each.getName() + " has more than twenty fields", many <= MOST_FIELDS);
    }
  }

  private static void methods() {
    Set<String> told = new HashSet<>();
    for (Method method : ViewedBank.class.getDeclaredMethods()) if (Modifier.isPublic(method.getModifiers())) told.add(method.getName());
    for (Class<?> each : classes()) {
      for (Method method : each.getDeclaredMethods()) {
        String name = each.getName() + "." + method.getName();
        due(1, name + " bears the name of a public one", !Modifier.isPrivate(method.getModifiers()) || !told.contains(method.getName()));
        due(6, name + " is equals, hashCode or toString", !Set.of("equals", "hashCode", "toString").contains(method.getName()));
        due(11, name + " takes too many", method.getParameterCount() <= MOST_PARAMETERS);
        due(2, name + " was made for a lambda", !method.isSynthetic());
      }
      for (Constructor<?> made : each.getDeclaredConstructors()) due(11, each.getName() + " takes too many", made.getParameterCount() <= MOST_PARAMETERS);
    }
  }

  // ---- by words

  /** The program without its comments, its texts and its signs. */
  private static String bare(String program) {
    return program.replaceAll("(?s)/\\*.*?\\*/", "").replaceAll("//[^\n]*", "").replaceAll("\"[^\"\n]*\"", "\"\"").replaceAll("'[^'\n]+'", "' '");
  }

  private static void words(String bare) {
    String[] ruledOut = {"import", "package", "throw", "throws", "try", "catch", "finally", "synchronized", "assert", "instanceof", "volatile", "native"};
    for (String word : ruledOut) due(6, "it has the word " + word, !Pattern.compile("\\b" + word + "\\b").matcher(bare).find());
    due(2, "it has a lambda or a method reference", !bare.contains("->") && !bare.contains("::"));
    due(10, "it joins texts by +", !bare.contains("\" +") && !bare.contains("+ \""));
    Set<String> own = new HashSet<>();
    for (Class<?> each : classes()) own.add(each.getSimpleName());
    Matcher named = Pattern.compile("\\b[A-Z]\\w*[a-z]\\w*(\\.\\w+)?").matcher(bare);
    while (named.find()) {
      String name = named.group();
      boolean isOwn = own.contains(name) || own.contains(name.replaceAll("\\..*", ""));
      due(4, "it uses " + name, isOwn || LIBRARY.contains(name));
    }
  }

  /** Lines of each method: from one that opens a block of a class to the one that ends it. */
  private static void lengths(String program) {
    String[] lines = program.split("\n");
    for (String indent : new String[] {"    ", "        "}) {
      int first = -1;
      for (int k = 0; k < lines.length; k++) {
        boolean opens = lines[k].matches(indent + "[a-zA-Z].*\\) \\{");
        if (opens) first = k;
        if (first >= 0 && lines[k].equals(indent + "}")) {
          due(11, "a method is too long: " + lines[first].strip(), k - first < MOST_LINES);
          first = -1;
        }
      }
    }
    for (String line : lines) due(4, "a sign is none of 1 to 127: " + line, line.chars().allMatch(c -> c > 0 && c < 128));
  }

  public static void main(String[] args) throws IOException {
    String program = Files.readString(SOURCE);
    inside();
    fields();
    methods();
    words(bare(program));
    lengths(program);
    System.out.println(wrong == 0 ? "the class keeps to what can be seen of LANGUAGE.md" : wrong + " things are ruled out");
    if (wrong != 0) System.exit(1);
  }
}
