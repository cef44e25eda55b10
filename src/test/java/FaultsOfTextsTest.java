import java.util.Random;
import java.util.regex.Matcher;
import java.util.regex.Pattern;

/**
 * The FAULT of drawn texts. A pattern of the library says whether a text begins
 * as some TEXT does: if more letters could still make it one, it has read to the end.
 */
public final class FaultsOfTextsTest {
  private static final String PLACE = "[0-9]\\.[0-9][0-9]?";
  private static final String LINE = PLACE + "(=" + PLACE + ":[0-8]|<(8|[0-79]-?[0-9]{1,9}))";
  private static final Pattern TEXT = Pattern.compile(LINE + "(;" + LINE + ")*");
  private static final String SIGNS = "0123456789.=:<;-089..::;; +/>AZ\t\u0001\u007f";
  private static final int TEXTS = 20000, ROOM = 120;

  /** -5, if it is a TEXT. */
  private static int faultOf(String text) {
    if (TEXT.matcher(text).matches()) return -5;
    for (int k = 0; k < text.length(); k++) {
      Matcher begin = TEXT.matcher(text.substring(0, k + 1));
      if (!begin.matches() && !begin.hitEnd()) return k;
    }
    return text.length();
  }

  private static String digits(Random random, int most) {
    StringBuilder all = new StringBuilder();
    for (int k = 1 + random.nextInt(most); k > 0; k--) all.append(random.nextInt(10));
    return all.toString();
  }

  private static String place(Random random) { return random.nextInt(10) + "." + digits(random, 2); }

  private static String line(Random random) {
    if (random.nextBoolean()) return place(random) + "=" + place(random) + ":" + random.nextInt(9);
    int kind = random.nextInt(10);
    if (kind == 8) return place(random) + "<8";
    return place(random) + "<" + kind + (random.nextBoolean() ? "-" : "") + digits(random, 9);
  }

  private static String text(Random random) {
    StringBuilder all = new StringBuilder(line(random));
    for (int more = random.nextInt(20); more > 0; more--) {
      String next = line(random);
      if (all.length() + 1 + next.length() <= ROOM) all.append(';').append(next);
    }
    return all.toString();
  }

  /** A text with a letter changed, put in or left out, or cut short. */
  private static String spoilt(Random random, String text) {
    StringBuilder all = new StringBuilder(text);
    int at = random.nextInt(text.length());
    char sign = SIGNS.charAt(random.nextInt(SIGNS.length()));
    switch (random.nextInt(4)) {
      case 0 -> all.setCharAt(at, sign);
      case 1 -> all.insert(at, sign);
      case 2 -> all.deleteCharAt(at);
      default -> all.setLength(at);
    }
    if (all.length() > ROOM) all.setLength(ROOM);
    return all.toString();
  }

  private static int linesOf(String text) { return text.split(";").length; }

  /** Whether run() tells a text's FAULT, or that it has none (its LINES are refused or not). */
  private static boolean isAsDue(ViewedBank bank, String text) {
    int fault = faultOf(text);
    for (int k = 0; k < text.length(); k++) if (bank.feed(text.charAt(k)) != k + 1) return false;
    int got = bank.run();
    boolean isDue = fault >= 0 ? got == -1000 - fault : got == linesOf(text) || (got <= -100 && got > -100 - linesOf(text));
    if (!isDue) System.out.println(text + ": answered " + got + ", the fault is " + fault);
    return isDue && bank.count(6) == 0;
  }

  public static void main(String[] args) {
    int wrong = 0;
    int whole = 0;
    Random random = new Random(36);
    for (int k = 0; k < TEXTS; k++) {
      String text = text(random);
      for (int times = random.nextInt(4); times > 0 && !text.isEmpty(); times--) text = spoilt(random, text);
      ViewedBank bank = new ViewedBank();
      for (int s = 0; s < 10; s++) bank.make(s, 8, 32);
      if (faultOf(text) == -5) whole++;
      if (!isAsDue(bank, text)) wrong++;
    }
    System.out.println(wrong == 0 ? TEXTS + " texts (" + whole + " without a fault) are as the pattern has them" : wrong + " texts are not");
    if (wrong != 0) System.exit(1);
  }
}
