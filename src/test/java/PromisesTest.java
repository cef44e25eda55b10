import java.lang.reflect.Constructor;
import java.lang.reflect.Field;
import java.lang.reflect.Method;
import java.lang.reflect.Modifier;
import java.util.Set;
import java.util.TreeSet;

/** Each promise of the document, one method a promise, with answers worked out by hand. */
public final class PromisesTest {
  private static final int NONE = -1, BAD = -2, STATE = -3, FULL = -4, ABSENT = -5;
  private static final int NOTHING = -11, KIND = -12, PLACE = -13, SIZE = -14;
  private static final long NO = Long.MIN_VALUE;

  private static int wrong = 0;
  private static int promise = 0;

  private static void due(String call, long got, long want) {
    if (got != want) {
      wrong++;
      System.out.println("promise " + promise + ": " + call + " answered " + got + ", due is " + want);
    }
  }

  private static void feedAll(ViewedBank x, String text) {
    for (int k = 0; k < text.length(); k++) {
      x.feed(text.charAt(k));
    }
  }

  private static int runText(ViewedBank x, String text) {
    feedAll(x, text);
    return x.run();
  }

  private static void dueSpelled(ViewedBank x, int slot, String want) {
    due("spell(" + slot + ") for " + want, x.spell(slot), want.length());
    StringBuilder got = new StringBuilder();
    int letter = x.paper(0);
    for (int i = 1; i <= want.length() + 1 && letter != NONE; i++) {
      got.append((char) letter);
      letter = x.paper(i);
    }
    if (!got.toString().equals(want)) {
      wrong++;
      System.out.println("promise " + promise + ": slot " + slot + " is spelled " + got + ", due is " + want);
    }
  }

  private static void dueRead(ViewedBank x, int slot, int i, int view, int kind, long value) {
    due("read(" + slot + ", " + i + ", " + view + ")", x.read(slot, i, view), 1);
    due("latch(0) behind it", x.latch(0), kind);
    due("latch(1) behind it", x.latch(1), value);
  }

  private static void dueStop(ViewedBank x, int j, int side, int refusal) {
    due("stop(0)", x.stop(0), j);
    due("stop(1)", x.stop(1), side);
    due("stop(2)", x.stop(2), refusal);
  }

  /** A bank with a row of each kind k in slot k, of n cells. */
  private static ViewedBank rowsOfAllKinds(int n) {
    ViewedBank x = new ViewedBank();
    for (int k = 0; k <= 9; k++) {
      due("make(" + k + ", " + k + ", " + n + ")", x.make(k, k, n), 1);
    }
    return x;
  }

  private static void face() {
    Set<String> names = new TreeSet<>();
    for (Method m : ViewedBank.class.getDeclaredMethods()) {
      if (!Modifier.isPrivate(m.getModifiers())) {
        names.add(m.getReturnType() + " " + m.getName() + java.util.Arrays.toString(m.getParameterTypes()));
        due(m.getName() + " is public", Modifier.isPublic(m.getModifiers()) ? 1 : 0, 1);
      }
    }
    due("public methods", names.size(), 35);
    for (Field f : ViewedBank.class.getDeclaredFields()) {
      boolean told = Set.of("NONE", "BAD", "STATE", "FULL", "NO").contains(f.getName());
      due(f.getName() + " is public", Modifier.isPublic(f.getModifiers()) ? 1 : 0, told ? 1 : 0);
      due(f.getName() + " is private", Modifier.isPrivate(f.getModifiers()) ? 1 : 0, told ? 0 : 1);
    }
    Constructor<?>[] all = ViewedBank.class.getDeclaredConstructors();
    due("constructors", all.length, 1);
    due("the class is final", Modifier.isFinal(ViewedBank.class.getModifiers()) ? 1 : 0, 1);
    due("NONE", ViewedBank.NONE, -1);
    due("BAD", ViewedBank.BAD, -2);
    due("STATE", ViewedBank.STATE, -3);
    due("FULL", ViewedBank.FULL, -4);
    due("NO", ViewedBank.NO, Long.MIN_VALUE);
  }

  private static void promise1() {
    ViewedBank x = new ViewedBank();
    for (int s = 0; s < 10; s++) {
      due("of(" + s + ", 0)", x.of(s, 0), -1);
      due("of(" + s + ", 1)", x.of(s, 1), NOTHING);
    }
    for (int what = 0; what <= 8; what++) {
      due("count(" + what + ")", x.count(what), 0);
    }
    for (int what = 11; what <= 13; what++) {
      due("count(" + what + ")", x.count(what), 0);
    }
    int[] first = {0, 0, 1, 0, 8};
    for (int w = 0; w < 6; w++) {
      for (int what = 0; what < 5; what++) {
        due("windowOf(" + w + ", " + what + ")", x.windowOf(w, what), first[what]);
      }
    }
    due("latch(0)", x.latch(0), 8);
    due("paper(0)", x.paper(0), NONE);
  }

  private static void promise2() {
    ViewedBank x = new ViewedBank();
    due("make(-1, 0, 0)", x.make(-1, 0, 0), NONE);
    due("make(10, 10, -1)", x.make(10, 10, -1), NONE);
    due("make(0, -1, -1)", x.make(0, -1, -1), BAD);
    due("make(0, 10, 1)", x.make(0, 10, 1), BAD);
    due("make(0, 9, 33)", x.make(0, 9, 33), BAD);
    due("make(0, 9, max)", x.make(0, 9, Integer.MAX_VALUE), BAD);
    due("make(0, 9, -1)", x.make(0, 9, -1), SIZE);
    due("make(0, 0, min)", x.make(0, 0, Integer.MIN_VALUE), SIZE);
    due("of(0, 0)", x.of(0, 0), -1);
    due("make(0, 9, 32)", x.make(0, 9, 32), 1);
    due("make(9, 0, 0)", x.make(9, 0, 0), 1);
    due("of(0, 0)", x.of(0, 0), 9);
    due("of(0, 1)", x.of(0, 1), 32);
    due("of(9, 0)", x.of(9, 0), 0);
    due("of(9, 1)", x.of(9, 1), 0);
    ViewedBank y = rowsOfAllKinds(2);
    for (int k = 0; k <= 9; k++) {
      dueRead(y, k, 0, 8, k < 8 ? k : 8, 0);
      dueRead(y, k, 1, 8, k < 8 ? k : 8, 0);
    }
    y.write(4, 0, 4, 7);
    due("make(4, 4, 2)", y.make(4, 4, 2), 1);
    dueRead(y, 4, 0, 4, 4, 0);
    due("make(4, 4, 33)", y.make(4, 4, 33), BAD);
    due("of(4, 1)", y.of(4, 1), 2);
  }

  private static void promise3() {
    ViewedBank x = new ViewedBank();
    due("thing(10, 0, 0)", x.thing(10, 0, 0), NONE);
    due("thing(-1, 5, 0)", x.thing(-1, 5, 0), NONE);
    due("thing(0, 2, 0)", x.thing(0, 2, 0), BAD);
    due("thing(0, -2, 0)", x.thing(0, -2, 0), BAD);
    due("thing(0, 1, -1)", x.thing(0, 1, -1), BAD);
    due("thing(0, 1, 10)", x.thing(0, 1, 10), BAD);
    due("of(0, 0)", x.of(0, 0), -1);
    due("thing(0, 0, min)", x.thing(0, 0, Integer.MIN_VALUE), 1);
    due("of(0, 0)", x.of(0, 0), 10);
    due("digest(0)", x.digest(0), 31L * 219 + Integer.MIN_VALUE);
    due("thing(1, 1, 9)", x.thing(1, 1, 9), 1);
    due("of(1, 0)", x.of(1, 0), 11);
    due("digest(1)", x.digest(1), 31L * 219 + 9);
    due("thing(2, 1, 0)", x.thing(2, 1, 0), 1);
    due("digest(2)", x.digest(2), 31L * 219);
    due("count(1)", x.count(1), 3);
    due("thing(0, -1, 77)", x.thing(0, -1, 77), 1);
    due("of(0, 0)", x.of(0, 0), -1);
    due("digest(0)", x.digest(0), 218);
    x.make(3, 4, 2);
    x.write(3, 0, 4, 5);
    due("thing(3, 0, 1)", x.thing(3, 0, 1), 1);
    due("of(3, 0)", x.of(3, 0), 10);
    due("count(4)", x.count(4), 0);
  }

  private static void promise4() {
    ViewedBank x = new ViewedBank();
    due("same(10, 0)", x.same(10, 0), NONE);
    due("same(0, 10)", x.same(0, 10), NONE);
    due("same(-1, 0)", x.same(-1, 0), NONE);
    due("same(0, -1)", x.same(0, -1), NONE);
    x.make(0, 4, 3);
    due("same(1, 0)", x.same(1, 0), 1);
    x.write(1, 2, 4, 8);
    dueRead(x, 0, 2, 4, 4, 8);
    due("of(0, 2)", x.of(0, 2), 2);
    due("same(0, 0)", x.same(0, 0), 1);
    due("count(4) behind same(0, 0)", x.count(4), 1);
    x.thing(2, 1, 4);
    due("same(3, 2)", x.same(3, 2), 1);
    due("of(3, 0)", x.of(3, 0), 11);
    due("digest(3)", x.digest(3), x.digest(2));
    due("same(0, 5)", x.same(0, 5), 1);
    due("of(0, 0)", x.of(0, 0), -1);
    due("count(4)", x.count(4), 1);
    due("same(1, 5)", x.same(1, 5), 1);
    due("count(4) as no slot holds it", x.count(4), 0);
  }

  private static void promise5() {
    ViewedBank x = new ViewedBank();
    due("of(-1, 0)", x.of(-1, 0), NONE);
    due("of(10, 0)", x.of(10, 0), NONE);
    due("of(0, -1)", x.of(0, -1), NONE);
    due("of(0, 5)", x.of(0, 5), NONE);
    x.thing(1, 0, 3);
    for (int what = 1; what <= 4; what++) {
      due("of(0, " + what + ")", x.of(0, what), NOTHING);
      due("of(1, " + what + ")", x.of(1, what), KIND);
    }
    x.make(2, 5, 6);
    due("of(2, 0)", x.of(2, 0), 5);
    due("of(2, 1)", x.of(2, 1), 6);
    due("of(2, 2)", x.of(2, 2), 1);
    due("of(2, 3)", x.of(2, 3), 0);
    due("of(2, 4)", x.of(2, 4), ABSENT);
    x.same(3, 2);
    x.same(4, 3);
    due("of(2, 2)", x.of(2, 2), 3);
    x.write(3, 4, 5, 0);
    x.write(3, 4, 5, 1);
    x.write(4, 2, 5, 1);
    due("of(2, 3)", x.of(2, 3), 2);
    due("of(2, 4)", x.of(2, 4), 2);
    x.undo();
    due("of(2, 3), UNDONE ones too", x.of(2, 3), 2);
    x.write(2, 6, 5, 1);
    x.write(2, 0, 7, 1);
    x.window(0, 2, 4, 1, 4, 8);
    x.fill(0, 5, 1);
    due("of(2, 3), refused ones not", x.of(2, 3), 2);
    x.write(2, 0, 5, 1);
    due("of(2, 4)", x.of(2, 4), 0);
    x.make(5, 5, 6);
    due("of(5, 3)", x.of(5, 3), 0);
  }

  private static void promise6() {
    ViewedBank x = rowsOfAllKinds(3);
    int[] seen = {0b100000001, 0b111111010, 0b111110100, 0b111111000, 0b111110000, 0b111100000, 0b111000000, 0b110000000,
        0b100000000, 0b100000000};
    for (int k = 0; k <= 9; k++) {
      for (int view = 0; view <= 8; view++) {
        due("read(" + k + ", 1, " + view + ")", x.read(k, 1, view), (seen[k] >> view & 1) == 1 ? 1 : KIND);
      }
    }
    due("read(10, 0, 0)", x.read(10, 0, 0), NONE);
    due("read(-1, 0, 0)", x.read(-1, 0, 0), NONE);
    due("read(0, 0, 9)", x.read(0, 0, 9), NONE);
    due("read(0, 0, -1)", x.read(0, 0, -1), NONE);
    x.write(1, 0, 1, -5);
    dueRead(x, 1, 0, 5, 5, -5);
    due("read(1, 3, 5)", x.read(1, 3, 5), PLACE);
    due("read(1, 3, 0), PLACE ahead of KIND", x.read(1, 3, 0), PLACE);
    due("read(1, -1, 8)", x.read(1, -1, 8), PLACE);
    due("read(1, min, 8)", x.read(1, Integer.MIN_VALUE, 8), PLACE);
    due("read(8, 3, 4), KIND ahead of PLACE", x.read(8, 3, 4), KIND);
    due("read(9, 3, 8)", x.read(9, 3, 8), PLACE);
    x.thing(0, -1, 0);
    due("read(0, 0, 0)", x.read(0, 0, 0), NOTHING);
    x.thing(0, 1, 3);
    due("read(0, 9, 8)", x.read(0, 9, 8), KIND);
    due("latch(0) stays", x.latch(0), 5);
    due("latch(1) stays", x.latch(1), -5);
    x.write(1, 0, 1, 6);
    due("latch(1) is no cell", x.latch(1), -5);
  }

  private static void promise7() {
    ViewedBank x = rowsOfAllKinds(3);
    due("latch(0)", x.latch(0), 8);
    due("latch(1)", x.latch(1), 0);
    due("latch(2)", x.latch(2), NO);
    due("latch(3)", x.latch(3), NO);
    due("latch(-1)", x.latch(-1), NO);
    x.write(0, 0, 0, 1);
    dueRead(x, 0, 0, 8, 0, 1);
    due("latch(2) of true", x.latch(2), 1);
    x.write(2, 0, 2, 65535);
    dueRead(x, 2, 0, 8, 2, 65535);
    due("latch(2) of a sign", x.latch(2), 65535);
    x.real(6, 0, 6, -7, 2);
    dueRead(x, 6, 0, 8, 6, Float.floatToIntBits(-3.5f));
    due("latch(2) of -3.5", x.latch(2), -3);
    dueRead(x, 6, 0, 7, 7, Double.doubleToLongBits(-3.5));
    due("latch(2) of -3.5 as a double", x.latch(2), -3);
    x.write(7, 0, 7, Long.MAX_VALUE);
    dueRead(x, 7, 0, 7, 7, Double.doubleToLongBits(0x1p63));
    due("latch(2) of 2 to the 63", x.latch(2), Long.MAX_VALUE);
    x.write(7, 0, 7, Long.MIN_VALUE);
    dueRead(x, 7, 0, 7, 7, Double.doubleToLongBits(-0x1p63));
    due("latch(2) of it below 0", x.latch(2), Long.MIN_VALUE);
    long[] wholes = {1L << 62, -(1L << 62), 1L << 52, (1L << 53) - 1, (1L << 51) + 1, Long.MAX_VALUE - 1023, 1, -1, 0};
    for (long v : wholes) {
      x.write(7, 0, 7, v);
      dueRead(x, 7, 0, 7, 7, Double.doubleToLongBits((double) v));
      due("latch(2) of " + v, x.latch(2), v);
    }
    x.box(8, 0, 10, 7);
    dueRead(x, 8, 0, 8, 10, 7);
    due("latch(2) of a WORD", x.latch(2), NO);
    x.box(9, 0, 9, -3);
    dueRead(x, 9, 0, 8, 9, -3);
    due("latch(2) of a LABEL", x.latch(2), NO);
    dueRead(x, 9, 1, 8, 8, 0);
    due("latch(2) of MISSING", x.latch(2), NO);
  }

  private static void promise8() {
    ViewedBank x = rowsOfAllKinds(3);
    long v = 0x123456789ABCDEF1L;
    long[] lowest = {1, (byte) v, (char) v, (short) v, (int) v, v, Float.floatToIntBits((float) v), Double.doubleToLongBits((double) v)};
    for (int k = 0; k <= 7; k++) {
      due("write(" + k + ", 1, " + k + ", v)", x.write(k, 1, k, v), 1);
      dueRead(x, k, 1, 8, k, lowest[k]);
    }
    due("write(0, 0, 0, 256)", x.write(0, 0, 0, 256), 1);
    dueRead(x, 0, 0, 0, 0, 1);
    due("write(0, 0, 0, 0)", x.write(0, 0, 0, 0), 1);
    dueRead(x, 0, 0, 0, 0, 0);
    due("write(7, 0, 1, 511)", x.write(7, 0, 1, 511), 1);
    dueRead(x, 7, 0, 7, 7, Double.doubleToLongBits(-1.0));
    due("write(6, 0, 5, 16777217)", x.write(6, 0, 5, 16777217), 1);
    dueRead(x, 6, 0, 6, 6, Float.floatToIntBits(16777216f));
    due("write(6, 0, 5, 16777219)", x.write(6, 0, 5, 16777219), 1);
    dueRead(x, 6, 0, 6, 6, Float.floatToIntBits(16777220f));
    due("write(7, 0, 6, 16777217)", x.write(7, 0, 6, 16777217), 1);
    dueRead(x, 7, 0, 7, 7, Double.doubleToLongBits(16777216.0));
    due("write(4, 0, 5, 1)", x.write(4, 0, 5, 1), KIND);
    due("write(3, 0, 2, 1)", x.write(3, 0, 2, 1), KIND);
    due("write(2, 0, 1, 1)", x.write(2, 0, 1, 1), KIND);
    due("write(4, 3, 5, 1), PLACE ahead of KIND", x.write(4, 3, 5, 1), PLACE);
    due("write(8, 3, 4, 1), KIND ahead of PLACE", x.write(8, 3, 4, 1), KIND);
    due("write(9, 0, 4, 1)", x.write(9, 0, 4, 1), KIND);
    due("write(4, 0, 8, 1)", x.write(4, 0, 8, 1), NONE);
    due("write(4, 0, -1, 1)", x.write(4, 0, -1, 1), NONE);
    due("write(10, 0, 0, 1)", x.write(10, 0, 0, 1), NONE);
    x.thing(0, -1, 0);
    due("write of NOTHING", x.write(0, 0, 0, 1), NOTHING);
    x.thing(0, 0, 0);
    due("write of a THING", x.write(0, 99, 0, 1), KIND);
    dueRead(x, 4, 0, 4, 4, 0);
  }

  private static void promise9() {
    ViewedBank x = rowsOfAllKinds(3);
    int[][] pairs = {{1, 3}, {-7, 2}, {0, 5}, {0, -5}, {Integer.MAX_VALUE, 1}, {Integer.MIN_VALUE, -1}, {1, Integer.MIN_VALUE},
        {Integer.MAX_VALUE, Integer.MIN_VALUE}, {16777217, 1}, {16777219, 33554433}, {-1, Integer.MAX_VALUE}, {2, 3}, {10, 3}, {1, 1000},
        {1, Integer.MAX_VALUE}, {-3, 100}};
    for (int[] p : pairs) {
      due("real(6, 1, 6, ..)", x.real(6, 1, 6, p[0], p[1]), 1);
      dueRead(x, 6, 1, 6, 6, Float.floatToIntBits((float) p[0] / (float) p[1]));
      dueRead(x, 6, 1, 7, 7, Double.doubleToLongBits((double) ((float) p[0] / (float) p[1])));
      due("real(7, 1, 7, ..)", x.real(7, 1, 7, p[0], p[1]), 1);
      dueRead(x, 7, 1, 7, 7, Double.doubleToLongBits((double) p[0] / (double) p[1]));
      due("latch(2)", x.latch(2), (long) ((double) p[0] / (double) p[1]));
      due("real(7, 2, 6, ..)", x.real(7, 2, 6, p[0], p[1]), 1);
      dueRead(x, 7, 2, 7, 7, Double.doubleToLongBits((double) ((float) p[0] / (float) p[1])));
    }
    due("real(6, 0, 7, 1, 3)", x.real(6, 0, 7, 1, 3), KIND);
    due("real(5, 0, 6, 1, 1)", x.real(5, 0, 6, 1, 1), KIND);
    due("real(5, 3, 6, 1, 1)", x.real(5, 3, 6, 1, 1), PLACE);
    due("real(8, 3, 6, 1, 1)", x.real(8, 3, 6, 1, 1), KIND);
    due("real(6, 0, 5, 1, 0)", x.real(6, 0, 5, 1, 0), NONE);
    due("real(6, 0, 8, 1, 1)", x.real(6, 0, 8, 1, 1), NONE);
    due("real(10, 0, 6, 1, 0)", x.real(10, 0, 6, 1, 0), NONE);
    due("real(6, 9, 6, 1, 0)", x.real(6, 9, 6, 1, 0), BAD);
    due("real(6, 9, 6, 0, 0)", x.real(6, 9, 6, 0, 0), BAD);
    x.thing(0, -1, 0);
    due("real of NOTHING", x.real(0, 0, 6, 1, 1), NOTHING);
  }

  private static void promise10() {
    ViewedBank x = rowsOfAllKinds(12);
    int[] admitted = {0b1, 0b10, 0b100, 0b1010, 0b11110, 0b111110, 0b1111110, 0b11111110, 0b11111111111, 0b1100000000};
    for (int s = 0; s <= 9; s++) {
      for (int k = 0; k <= 10; k++) {
        due("box(" + s + ", " + k + ", " + k + ", 1)", x.box(s, k, k, 1), (admitted[s] >> k & 1) == 1 ? 1 : KIND);
        due("takes(" + s + ", " + k + ")", x.takes(s, k), admitted[s] >> k & 1);
      }
    }
    for (int k = 0; k <= 10; k++) {
      long one = k == 6 ? Float.floatToIntBits(1f) : k == 7 ? Double.doubleToLongBits(1.0) : k == 8 ? 0 : 1;
      dueRead(x, 8, k, 8, k, one);
    }
    for (int k = 1; k <= 7; k++) {
      dueRead(x, 7, k, 7, 7, Double.doubleToLongBits(1.0));
    }
    due("box(9, 0, 9, 2^32 + 5)", x.box(9, 0, 9, 4294967301L), 1);
    dueRead(x, 9, 0, 8, 9, 5);
    due("box(9, 0, 8, 7)", x.box(9, 0, 8, 7), 1);
    dueRead(x, 9, 0, 8, 8, 0);
    due("box(4, 12, 8, 0), KIND ahead of PLACE", x.box(4, 12, 8, 0), KIND);
    due("box(8, 12, 8, 0)", x.box(8, 12, 8, 0), PLACE);
    due("box(9, 12, 4, 0), PLACE ahead of KIND", x.box(9, 12, 4, 0), PLACE);
    due("box(4, 12, 9, 0)", x.box(4, 12, 9, 0), PLACE);
    due("box(4, 0, 11, 0)", x.box(4, 0, 11, 0), NONE);
    due("box(4, 0, -1, 0)", x.box(4, 0, -1, 0), NONE);
    due("box(10, 0, 10, 99)", x.box(10, 0, 10, 99), NONE);
    due("box(8, 0, 10, -1)", x.box(8, 0, 10, -1), BAD);
    due("box(8, 0, 10, 10)", x.box(8, 0, 10, 10), BAD);
    due("box(8, 0, 10, 2^32)", x.box(8, 0, 10, 4294967296L), BAD);
    due("box(8, 0, 10, 9)", x.box(8, 0, 10, 9), 1);
    x.thing(0, -1, 0);
    due("box into NOTHING", x.box(0, 0, 8, 1), NOTHING);
    x.thing(0, 0, 0);
    due("box into a THING", x.box(0, 0, 9, 1), KIND);
  }

  private static void promise11() {
    ViewedBank x = new ViewedBank();
    due("window(6, ..)", x.window(6, 0, 0, 1, 0, 8), NONE);
    due("window(-1, ..)", x.window(-1, 0, 0, 1, 0, 8), NONE);
    due("slot 10", x.window(0, 10, 99, 1, 0, 8), NONE);
    due("slot -1", x.window(0, -1, 0, 1, 0, 8), NONE);
    due("from -10", x.window(0, 0, -10, 1, 0, 8), BAD);
    due("from 41", x.window(0, 0, 41, 1, 0, 8), BAD);
    due("step 4", x.window(0, 0, 0, 4, 0, 8), BAD);
    due("step -4", x.window(0, 0, 0, -4, 0, 8), BAD);
    due("many -1", x.window(0, 0, 0, 1, -1, 8), BAD);
    due("many 33", x.window(0, 0, 0, 1, 33, 8), BAD);
    due("view -1", x.window(0, 0, 0, 1, 0, -1), BAD);
    due("view 9", x.window(0, 0, 0, 1, 0, 9), BAD);
    int[] first = {0, 0, 1, 0, 8};
    for (int what = 0; what < 5; what++) {
      due("windowOf(0, " + what + ")", x.windowOf(0, what), first[what]);
    }
    due("the highest", x.window(5, 9, 40, 3, 32, 8), 1);
    due("the lowest", x.window(0, 0, -9, -3, 0, 0), 1);
    due("step 0", x.window(1, 0, 0, 0, 1, 0), 1);
  }

  private static void promise12() {
    ViewedBank x = new ViewedBank();
    x.window(5, 9, -9, -3, 32, 7);
    int[] told = {9, -9, -3, 32, 7};
    for (int what = 0; what < 5; what++) {
      due("windowOf(5, " + what + ")", x.windowOf(5, what), told[what]);
      due("windowOf(6, " + what + ")", x.windowOf(6, what), NONE);
      due("windowOf(-1, " + what + ")", x.windowOf(-1, what), NONE);
    }
    due("windowOf(5, 5)", x.windowOf(5, 5), NONE);
    due("windowOf(5, -1)", x.windowOf(5, -1), NONE);
    due("windowOf(4, 3)", x.windowOf(4, 3), 0);
  }

  private static void promise13() {
    ViewedBank x = new ViewedBank();
    x.make(3, 1, 6);
    for (int i = 0; i < 6; i++) {
      x.write(3, i, 1, 10 + i);
    }
    x.window(2, 3, 5, -2, 4, 4);
    for (int j = 0; j < 3; j++) {
      due("look(2, " + j + ")", x.look(2, j), 1);
      due("latch(0)", x.latch(0), 4);
      due("latch(1)", x.latch(1), 15 - 2 * j);
    }
    due("look(2, 3), there is no cell -1", x.look(2, 3), PLACE);
    due("look(2, 4)", x.look(2, 4), PLACE);
    due("look(2, -1)", x.look(2, -1), PLACE);
    due("latch(1) stays", x.latch(1), 11);
    due("look(6, 0)", x.look(6, 0), NONE);
    due("look(-1, 0)", x.look(-1, 0), NONE);
    x.window(2, 3, 0, 1, 2, 2);
    due("bytes as signs", x.look(2, 0), KIND);
    x.window(2, 4, 0, 1, 2, 2);
    due("look at NOTHING", x.look(2, 1), NOTHING);
    due("PLACE ahead of all else", x.look(2, 2), PLACE);
    x.same(4, 3);
    x.make(3, 2, 2);
    x.window(2, 3, 0, 0, 2, 8);
    due("whatever the SLOT holds then", x.look(2, 1), 1);
    due("latch(0)", x.latch(0), 2);
    x.thing(3, 1, 1);
    due("look at a THING", x.look(2, 0), KIND);
    due("count(11)", x.count(11), 1);
    due("count(12)", x.count(12), 2);
    due("count(13)", x.count(13), 4);
  }

  private static void promise14() {
    ViewedBank x = rowsOfAllKinds(4);
    due("sum(6)", x.sum(6), NO);
    due("sum(-1)", x.sum(-1), NO);
    due("sum(0) of no cells", x.sum(0), 0);
    x.write(5, 0, 5, Long.MAX_VALUE);
    x.write(5, 1, 5, 5);
    x.window(0, 5, 0, 1, 2, 5);
    due("sum that wraps", x.sum(0), Long.MAX_VALUE + 5);
    x.real(7, 0, 7, 7, 2);
    x.real(7, 1, 7, -7, 2);
    x.real(7, 2, 7, 3, 2);
    x.window(0, 7, 0, 1, 3, 7);
    due("sum of what is whole", x.sum(0), 3 - 3 + 1);
    x.write(0, 0, 0, 1);
    x.write(0, 3, 0, 1);
    x.window(0, 0, 0, 1, 4, 8);
    due("sum of bits", x.sum(0), 2);
    x.window(0, 0, 0, 0, 32, 8);
    due("sum of one cell 32 times", x.sum(0), 32);
    x.box(8, 0, 4, 5);
    x.box(8, 1, 2, 6);
    x.window(0, 8, 0, 1, 2, 8);
    due("sum of boxes", x.sum(0), 11);
    x.window(0, 8, 0, 1, 3, 8);
    due("sum with MISSING", x.sum(0), NO);
    x.window(0, 5, 0, 1, 5, 5);
    due("sum beyond the row", x.sum(0), NO);
    due("latch(0) stays", x.latch(0), 8);
    due("no refusal is counted", x.count(13), 0);
  }

  private static void promise15() {
    ViewedBank x = rowsOfAllKinds(4);
    due("fault(6, 0)", x.fault(6, 0), NONE);
    due("fault(-1, 0)", x.fault(-1, 0), NONE);
    due("fault(0, 2)", x.fault(0, 2), NONE);
    due("fault(0, -1)", x.fault(0, -1), NONE);
    due("fault(0, 0)", x.fault(0, 0), ABSENT);
    due("fault(0, 1)", x.fault(0, 1), ABSENT);
    x.window(0, 4, 1, 1, 4, 5);
    due("fault(0, 0)", x.fault(0, 0), 3);
    due("fault(0, 1)", x.fault(0, 1), PLACE);
    x.window(0, 4, 0, 1, 4, 3);
    due("fault(0, 0)", x.fault(0, 0), 0);
    due("fault(0, 1)", x.fault(0, 1), KIND);
    x.box(8, 0, 4, 1);
    x.box(8, 1, 10, 1);
    x.window(0, 8, 0, 1, 4, 8);
    due("fault(0, 0)", x.fault(0, 0), 1);
    due("fault(0, 1)", x.fault(0, 1), KIND);
    x.thing(4, -1, 0);
    x.window(0, 4, 0, 1, 1, 8);
    due("fault(0, 0)", x.fault(0, 0), 0);
    due("fault(0, 1)", x.fault(0, 1), NOTHING);
    x.window(0, 5, 0, 1, 4, 7);
    due("fault(0, 1)", x.fault(0, 1), ABSENT);
  }

  private static void dueOrder(ViewedBank x, int window, int... order) {
    for (int i = 0; i < order.length; i++) {
      due("least(" + window + ", " + i + ")", x.least(window, i), order[i]);
    }
    due("least(" + window + ", " + order.length + ")", x.least(window, order.length), ABSENT);
  }

  private static void promise16() {
    ViewedBank x = rowsOfAllKinds(5);
    due("least(6, 0)", x.least(6, 0), NONE);
    due("least(-1, 0)", x.least(-1, 0), NONE);
    due("least(0, -1)", x.least(0, -1), NONE);
    due("least(0, 0) by view 8", x.least(0, 0), BAD);
    x.window(0, 4, 0, 1, 0, 4);
    dueOrder(x, 0);
    int[] numbers = {3, -1, 3, Integer.MIN_VALUE, 0};
    for (int i = 0; i < 5; i++) {
      x.write(4, i, 4, numbers[i]);
    }
    x.window(0, 4, 0, 1, 5, 4);
    dueOrder(x, 0, 3, 1, 4, 0, 2);
    x.window(0, 4, 4, -1, 5, 7);
    dueOrder(x, 0, 1, 3, 0, 2, 4);
    int[][] reals = {{0, 1}, {0, -1}, {-1, 3}, {-2, 3}, {1, 3}};
    for (int i = 0; i < 5; i++) {
      x.real(7, i, 7, reals[i][0], reals[i][1]);
      x.real(6, i, 6, reals[i][0], reals[i][1]);
    }
    x.window(0, 7, 0, 1, 5, 7);
    dueOrder(x, 0, 3, 2, 0, 1, 4);
    x.window(0, 6, 0, 1, 5, 6);
    dueOrder(x, 0, 3, 2, 0, 1, 4);
    x.window(0, 6, 4, -1, 5, 7);
    dueOrder(x, 0, 1, 2, 3, 4, 0);
    x.write(0, 1, 0, 1);
    x.window(0, 0, 0, 1, 3, 0);
    dueOrder(x, 0, 0, 2, 1);
    x.write(2, 0, 2, 65535);
    x.window(0, 2, 0, 1, 2, 2);
    dueOrder(x, 0, 1, 0);
    x.window(0, 2, 0, 1, 6, 2);
    due("its FAULT's refusal", x.least(0, 0), PLACE);
    due("its FAULT's refusal ahead of -5", x.least(0, 99), PLACE);
    x.window(0, 2, 0, 1, 6, 3);
    due("its FAULT's refusal", x.least(0, 0), KIND);
    x.write(5, 0, 5, 9007199254740993L);
    x.write(5, 1, 5, 9007199254740992L);
    x.window(0, 5, 0, 1, 2, 7);
    dueOrder(x, 0, 0, 1);
    x.window(0, 5, 0, 1, 2, 5);
    dueOrder(x, 0, 1, 0);
  }

  private static void promise17() {
    ViewedBank x = rowsOfAllKinds(8);
    x.box(8, 0, 0, 1);
    x.box(8, 1, 1, 1);
    x.box(8, 2, 7, 1);
    x.box(8, 3, 2, 65);
    x.box(8, 4, 9, 65);
    x.box(8, 5, 10, 3);
    x.window(0, 8, 0, 1, 8, 8);
    due("true", x.find(0, 0, 0, 5), 0);
    due("1", x.find(0, 0, 5, 1), 1);
    due("1 from 2 on", x.find(0, 2, 5, 1), 2);
    due("1 from 3 on", x.find(0, 3, 5, 1), ABSENT);
    due("1.0", x.find(0, 0, 6, 1), 1);
    due("false", x.find(0, 0, 0, 0), ABSENT);
    due("65", x.find(0, 0, 5, 65), 3);
    due("LABEL 65", x.find(0, 0, 9, 65), 4);
    due("LABEL 64", x.find(0, 0, 9, 64), ABSENT);
    due("WORD 3", x.find(0, 0, 10, 3), 5);
    due("WORD 2", x.find(0, 0, 10, 2), ABSENT);
    due("MISSING", x.find(0, 0, 8, 99), 6);
    due("from many on", x.find(0, 8, 8, 0), ABSENT);
    due("from far off", x.find(0, Integer.MAX_VALUE, 8, 0), ABSENT);
    due("find(6, ..)", x.find(6, 0, 0, 0), NONE);
    due("find(-1, ..)", x.find(-1, 0, 0, 0), NONE);
    due("j -1", x.find(0, -1, 0, 0), NONE);
    due("kind 11", x.find(0, 0, 11, 0), NONE);
    due("kind -1", x.find(0, 0, -1, 0), NONE);
    due("WORD 10", x.find(0, 0, 10, 10), BAD);
    due("WORD -1", x.find(0, 0, 10, -1), BAD);
    x.real(7, 0, 7, 0, -1);
    x.window(1, 7, -2, 1, 6, 7);
    due("-0.0 is 0, refused ones are passed", x.find(1, 0, 4, 0), 2);
    x.write(5, 0, 5, 9007199254740993L);
    x.window(1, 5, 0, 1, 1, 8);
    due("2^53 + 1 as a long", x.find(1, 0, 5, 9007199254740992L), ABSENT);
    due("2^53 + 1 as doubles", x.find(1, 0, 7, 9007199254740992L), 0);
    due("the LATCH stays", x.latch(0), 8);
  }

  private static void promise18() {
    ViewedBank x = rowsOfAllKinds(6);
    due("copy(6, 0, 0)", x.copy(6, 0, 0), NONE);
    due("copy(0, 6, 0)", x.copy(0, 6, 0), NONE);
    due("copy(-1, 0, 0)", x.copy(-1, 0, 0), NONE);
    due("copy(0, -1, 0)", x.copy(0, -1, 0), NONE);
    due("copy(0, 0, 2)", x.copy(0, 0, 2), NONE);
    due("copy(0, 0, -1)", x.copy(0, 0, -1), NONE);
    due("copy of none", x.copy(0, 1, 0), 0);
    due("copy of none is no ACT", x.count(4), 0);
    for (int i = 0; i < 6; i++) {
      x.write(4, i, 4, i + 1);
    }
    x.window(0, 4, 0, 1, 5, 8);
    x.window(1, 4, 1, 1, 5, 0);
    due("in turn, overlapping", x.copy(0, 1, 0), 5);
    dueSpelled(x, 4, "i 1 1 1 1 1 1");
    due("undo()", x.undo(), 5);
    dueSpelled(x, 4, "i 1 2 3 4 5 6");
    due("at once, overlapping", x.copy(0, 1, 1), 5);
    dueSpelled(x, 4, "i 1 1 2 3 4 5");
    due("act(6, 0)", x.act(6, 0), 5);
    due("act(6, 10)", x.act(6, 10), 1);
    x.window(1, 4, 5, -1, 5, 0);
    due("turned, at once", x.copy(0, 1, 1), 5);
    dueSpelled(x, 4, "i 1 4 3 2 1 1");
    x.window(2, 5, 0, 1, 3, 8);
    due("the second has 3 cells", x.copy(0, 2, 0), -103);
    dueStop(x, 3, 1, PLACE);
    dueSpelled(x, 5, "j 0 0 0 0 0 0");
    due("of(5, 3)", x.of(5, 3), 0);
    due("at once", x.copy(0, 2, 1), -103);
    x.window(0, 4, 3, 1, 5, 8);
    due("in turn the PUT comes first", x.copy(0, 2, 0), -103);
    dueStop(x, 3, 0, PLACE);
    x.window(2, 5, 5, 1, 3, 8);
    due("in turn", x.copy(0, 2, 0), -101);
    dueStop(x, 1, 1, PLACE);
    due("at once all are READ first", x.copy(0, 2, 1), -103);
    dueStop(x, 3, 0, PLACE);
    x.window(0, 4, 0, 1, 2, 8);
    x.window(1, 8, 0, 1, 2, 4);
    due("BOXED by VIEW 8", x.copy(0, 1, 0), 2);
    dueSpelled(x, 8, "o 1 4 - - - -");
    x.window(0, 4, 0, 1, 2, 4);
    due("WRITTEN by VIEW 4", x.copy(0, 1, 0), -100);
    dueStop(x, 0, 1, KIND);
    x.window(1, 4, 2, 1, 2, 4);
    x.window(0, 4, 0, 1, 2, 5);
    due("longs into ints", x.copy(0, 1, 1), -100);
    dueStop(x, 0, 1, KIND);
    x.window(0, 8, 0, 1, 3, 8);
    x.window(1, 5, 0, 1, 3, 0);
    due("MISSING into longs", x.copy(0, 1, 0), -102);
    dueStop(x, 2, 1, KIND);
    dueSpelled(x, 5, "j 0 0 0 0 0 0");
    x.window(0, 8, 0, 1, 2, 8);
    due("the boxes into longs", x.copy(0, 1, 0), 2);
    dueSpelled(x, 5, "j 1 4 0 0 0 0");
    due("the LATCH stays", x.latch(0), 8);
    due("no refusal is counted", x.count(12) + x.count(13), 0);
  }

  private static void promise19() {
    ViewedBank x = rowsOfAllKinds(4);
    due("swap(6, 0)", x.swap(6, 0), NONE);
    due("swap(0, 6)", x.swap(0, 6), NONE);
    due("swap(-1, 0)", x.swap(-1, 0), NONE);
    due("swap(0, -1)", x.swap(0, -1), NONE);
    due("swap of none", x.swap(0, 1), 0);
    due("count(4)", x.count(4), 0);
    for (int i = 0; i < 4; i++) {
      x.write(4, i, 4, i + 1);
      x.box(8, i, 4, i + 11);
    }
    x.window(0, 4, 0, 1, 2, 0);
    x.window(1, 4, 3, -1, 4, 0);
    due("the VIEWS don't matter", x.swap(0, 1), 2);
    dueSpelled(x, 4, "i 4 3 2 1");
    due("act(8, 0)", x.act(8, 0), 4);
    due("act(8, 10), the second's first", x.act(8, 10), 3);
    due("act(8, 11)", x.act(8, 11), 0);
    due("act(8, 12)", x.act(8, 12), 2);
    due("act(8, 13)", x.act(8, 13), 1);
    x.window(1, 8, 0, 1, 4, 8);
    due("swap with boxes", x.swap(0, 1), 2);
    dueSpelled(x, 4, "i 11 12 2 1");
    dueSpelled(x, 8, "o 4 3 13 14");
    x.make(6, 4, 32);
    x.make(7, 8, 32);
    x.window(2, 6, 0, 1, 32, 8);
    x.window(3, 7, 0, 1, 32, 8);
    x.fill(3, 4, 6);
    due("the most CELLS", x.swap(2, 3), 32);
    due("their sum", x.sum(2), 32 * 6);
    due("undo()", x.undo(), 64);
    due("their sum", x.sum(2), 0);
    due("redo()", x.redo(), 64);
    due("their sum", x.sum(2), 32 * 6);
    x.box(8, 1, 10, 3);
    due("a WORD into ints", x.swap(0, 1), -101);
    dueStop(x, 1, 3, KIND);
    dueSpelled(x, 4, "i 11 12 2 1");
    dueSpelled(x, 8, "o 4 w3 13 14");
    due("a WORD first", x.swap(1, 0), -101);
    dueStop(x, 1, 2, KIND);
    x.window(1, 8, 3, 1, 4, 8);
    due("beyond the second's row", x.swap(0, 1), -101);
    dueStop(x, 1, 1, PLACE);
    due("beyond the first's row", x.swap(1, 0), -101);
    dueStop(x, 1, 0, PLACE);
    x.window(1, 8, 0, 1, 1, 8);
    due("beyond the second's MANY", x.swap(0, 1), -101);
    dueStop(x, 1, 1, PLACE);
    due("as many as the first has", x.swap(1, 0), 1);
    due("with itself", x.swap(0, 0), 2);
    dueSpelled(x, 4, "i 4 12 2 1");
  }

  private static void promise20() {
    ViewedBank x = rowsOfAllKinds(4);
    due("fill(6, ..)", x.fill(6, 0, 0), NONE);
    due("fill(-1, ..)", x.fill(-1, 0, 0), NONE);
    due("kind 11", x.fill(0, 11, 0), NONE);
    due("kind -1", x.fill(0, -1, 0), NONE);
    due("WORD 10", x.fill(0, 10, 10), BAD);
    due("WORD -1", x.fill(0, 10, -1), BAD);
    due("fill of none", x.fill(0, 10, 9), 0);
    due("count(4)", x.count(4), 0);
    x.window(0, 5, 3, -1, 3, 0);
    due("the VIEW doesn't matter", x.fill(0, 2, -1), 3);
    dueSpelled(x, 5, "j 0 65535 65535 65535");
    due("act(0, 10)", x.act(0, 10), 3);
    due("a double", x.fill(0, 7, 1), -100);
    dueStop(x, 0, 1, KIND);
    due("MISSING", x.fill(0, 8, 1), -100);
    x.window(0, 5, 2, 1, 3, 0);
    due("beyond the row", x.fill(0, 5, 7), -102);
    dueStop(x, 2, 1, PLACE);
    dueSpelled(x, 5, "j 0 65535 65535 65535");
    due("of(5, 3)", x.of(5, 3), 3);
    due("count(4)", x.count(4), 1);
    x.window(0, 9, 0, 2, 2, 8);
    due("LABELS", x.fill(0, 9, -4), 2);
    due("the refused one left nothing", x.act(1, 0), 2);
    dueSpelled(x, 9, "l l-4 - l-4 -");
    due("MISSING", x.fill(0, 8, 4), 2);
    dueSpelled(x, 9, "l - - - -");
    x.window(0, 8, 0, 0, 32, 8);
    due("one cell 32 times", x.fill(0, 10, 0), 32);
    dueSpelled(x, 8, "o w0 - - -");
    due("undo()", x.undo(), 32);
    dueSpelled(x, 8, "o - - - -");
    x.thing(8, -1, 0);
    due("NOTHING", x.fill(0, 10, 0), -100);
    dueStop(x, 0, 1, NOTHING);
  }

  private static void promise21() {
    ViewedBank x = new ViewedBank();
    due("stop(-1)", x.stop(-1), NONE);
    due("stop(3)", x.stop(3), NONE);
    for (int what = 0; what < 3; what++) {
      due("stop(" + what + ")", x.stop(what), STATE);
    }
    x.make(0, 4, 2);
    x.write(0, 5, 4, 1);
    due("a write is no MOVE", x.stop(0), STATE);
    due("a FAULT is no refusal", runText(x, "0.0"), -1003);
    due("stop(0)", x.stop(0), STATE);
    x.window(0, 0, 0, 1, 3, 8);
    due("fill", x.fill(0, 4, 1), -102);
    dueStop(x, 2, 1, PLACE);
    x.window(0, 0, 0, 1, 2, 8);
    due("fill", x.fill(0, 4, 1), 2);
    dueStop(x, 2, 1, PLACE);
    due("stop(3)", x.stop(3), NONE);
    x.image();
    due("run", runText(x, "0.0<41;0.1=1.0:4"), -101);
    dueStop(x, 1, 0, NOTHING);
    x.back();
    dueStop(x, 1, 0, NOTHING);
  }

  private static void promise22() {
    ViewedBank x = new ViewedBank();
    due("undo()", x.undo(), STATE);
    x.make(0, 4, 3);
    x.make(1, 7, 3);
    x.write(0, 0, 4, 1);
    x.real(1, 0, 7, 1, 2);
    x.box(0, 0, 4, 3);
    x.write(0, 9, 4, 3);
    due("undo()", x.undo(), 1);
    dueSpelled(x, 0, "i 1 0 0");
    due("undo()", x.undo(), 1);
    dueSpelled(x, 1, "d 0 0 0");
    due("undo()", x.undo(), 1);
    dueSpelled(x, 0, "i 0 0 0");
    due("undo()", x.undo(), STATE);
    for (int k = 1; k <= 30; k++) {
      x.write(0, 1, 4, k);
    }
    due("count(4)", x.count(4), 24);
    for (int k = 0; k < 24; k++) {
      due("undo()", x.undo(), 1);
    }
    due("undo()", x.undo(), STATE);
    dueSpelled(x, 0, "i 0 6 0");
  }

  private static void promise23() {
    ViewedBank x = new ViewedBank();
    due("redo()", x.redo(), STATE);
    x.make(0, 4, 3);
    x.write(0, 0, 4, 1);
    x.write(0, 0, 4, 2);
    due("redo()", x.redo(), STATE);
    x.undo();
    x.undo();
    due("count(5)", x.count(5), 2);
    due("redo()", x.redo(), 1);
    dueSpelled(x, 0, "i 1 0 0");
    due("redo()", x.redo(), 1);
    dueSpelled(x, 0, "i 2 0 0");
    due("redo()", x.redo(), STATE);
    x.undo();
    x.write(0, 3, 4, 9);
    x.fill(0, 4, 9);
    due("neither a refused one nor a MOVE of none is an ACT", x.count(5), 1);
    x.write(0, 1, 4, 9);
    due("count(5)", x.count(5), 0);
    due("redo()", x.redo(), STATE);
    x.window(0, 0, 0, 0, 3, 8);
    x.window(1, 0, 0, 1, 3, 8);
    due("copy", x.copy(1, 0, 1), 3);
    dueSpelled(x, 0, "i 0 9 0");
    x.undo();
    dueSpelled(x, 0, "i 1 9 0");
    due("redo(), the first one first", x.redo(), 3);
    dueSpelled(x, 0, "i 0 9 0");
    x.make(1, 4, 1);
    x.write(1, 0, 4, 1);
    x.undo();
    x.undo();
    x.make(1, 4, 1);
    due("of a ROW that is no more", x.count(5), 1);
    due("redo()", x.redo(), 3);
    due("redo()", x.redo(), STATE);
  }

  private static void promise24() {
    ViewedBank x = new ViewedBank();
    due("act(0, 0)", x.act(0, 0), NONE);
    x.make(0, 4, 6);
    x.make(1, 4, 6);
    x.write(0, 5, 4, 1);
    x.window(0, 1, 4, -2, 3, 8);
    x.fill(0, 4, 3);
    due("act(0, 0)", x.act(0, 0), 1);
    due("act(0, 10)", x.act(0, 10), 5);
    due("act(0, 11)", x.act(0, 11), NONE);
    due("act(1, 0)", x.act(1, 0), 3);
    due("act(1, 10)", x.act(1, 10), 4);
    due("act(1, 12)", x.act(1, 12), 0);
    due("act(1, 13)", x.act(1, 13), NONE);
    due("act(1, 1)", x.act(1, 1), NONE);
    due("act(1, 9)", x.act(1, 9), NONE);
    due("act(1, -1)", x.act(1, -1), NONE);
    due("act(1, min)", x.act(1, Integer.MIN_VALUE), NONE);
    due("act(1, max)", x.act(1, Integer.MAX_VALUE), NONE);
    due("act(2, 0)", x.act(2, 0), NONE);
    due("act(-1, 0)", x.act(-1, 0), NONE);
    x.undo();
    due("act(1, 0), UNDONE", x.act(1, 0), NONE);
    x.redo();
    x.make(0, 4, 6);
    due("act(0, 0), the first is no more", x.act(0, 0), 3);
    x.write(0, 2, 4, 1);
    x.write(1, 5, 4, 1);
    x.make(0, 4, 6);
    due("count(4), the second is no more", x.count(4), 2);
    due("act(0, 0)", x.act(0, 0), 3);
    due("act(1, 10)", x.act(1, 10), 5);
    for (int k = 0; k < 24; k++) {
      x.write(1, k % 6, 4, k);
    }
    due("act(0, 10), the oldest", x.act(0, 10), 0);
    due("act(23, 10), the latest", x.act(23, 10), 5);
    due("act(24, 0)", x.act(24, 0), NONE);
    x.write(1, 3, 4, 7);
    due("act(0, 10), the oldest", x.act(0, 10), 1);
    due("act(23, 10), the latest", x.act(23, 10), 3);
  }

  private static void promise25() {
    int[] seen = {257, 506, 500, 504, 496, 480, 448, 384, 256, 256};
    for (int n = 0; n <= 2; n += 2) {
      ViewedBank x = rowsOfAllKinds(n);
      for (int k = 0; k <= 9; k++) {
        due("views(" + k + ")", x.views(k), seen[k]);
      }
      due("views(10)", x.views(10), NONE);
      due("views(-1)", x.views(-1), NONE);
      x.thing(3, 0, 1);
      due("views(3)", x.views(3), KIND);
      x.thing(3, -1, 1);
      due("views(3)", x.views(3), NOTHING);
    }
  }

  private static void promise26() {
    ViewedBank x = rowsOfAllKinds(0);
    due("takes(10, 0)", x.takes(10, 0), NONE);
    due("takes(-1, 0)", x.takes(-1, 0), NONE);
    due("takes(0, 11)", x.takes(0, 11), NONE);
    due("takes(0, -1)", x.takes(0, -1), NONE);
    due("takes(7, 0)", x.takes(7, 0), 0);
    due("takes(7, 6)", x.takes(7, 6), 1);
    due("takes(6, 7)", x.takes(6, 7), 0);
    due("takes(3, 2)", x.takes(3, 2), 0);
    due("takes(2, 1)", x.takes(2, 1), 0);
    due("takes(8, 10)", x.takes(8, 10), 1);
    due("takes(9, 8)", x.takes(9, 8), 1);
    due("takes(9, 9)", x.takes(9, 9), 1);
    due("takes(9, 10)", x.takes(9, 10), 0);
    x.thing(3, 1, 1);
    due("takes(3, 0)", x.takes(3, 0), KIND);
    due("takes(3, 11)", x.takes(3, 11), NONE);
    x.thing(3, -1, 1);
    due("takes(3, 0)", x.takes(3, 0), NOTHING);
  }

  private static void promise27() {
    ViewedBank x = rowsOfAllKinds(4);
    due("exact(10, 0)", x.exact(10, 0), NONE);
    due("exact(-1, 0)", x.exact(-1, 0), NONE);
    due("exact(0, 8)", x.exact(0, 8), NONE);
    due("exact(0, -1)", x.exact(0, -1), NONE);
    due("exact(0, 1)", x.exact(0, 1), KIND);
    due("exact(8, 4)", x.exact(8, 4), KIND);
    due("exact(9, 4)", x.exact(9, 4), KIND);
    due("exact(0, 0)", x.exact(0, 0), 4);
    x.write(4, 0, 4, 16777217);
    x.write(4, 1, 4, -16777219);
    x.write(4, 2, 4, 16777218);
    due("exact(4, 6)", x.exact(4, 6), 2);
    due("exact(4, 7)", x.exact(4, 7), 4);
    due("exact(4, 5)", x.exact(4, 5), 4);
    due("exact(4, 3)", x.exact(4, 3), KIND);
    x.write(5, 0, 5, Long.MAX_VALUE);
    x.write(5, 1, 5, Long.MIN_VALUE);
    x.write(5, 2, 5, Long.MAX_VALUE - 1);
    x.write(5, 3, 5, 9007199254740993L);
    due("exact(5, 7), the cast stops at the highest", x.exact(5, 7), 2);
    due("exact(5, 6)", x.exact(5, 6), 2);
    x.real(6, 0, 6, 1, 3);
    due("exact(6, 7)", x.exact(6, 7), 4);
    x.thing(3, 1, 1);
    due("exact(3, 0)", x.exact(3, 0), KIND);
    x.thing(3, -1, 1);
    due("exact(3, 0)", x.exact(3, 0), NOTHING);
    due("exact(3, 8)", x.exact(3, 8), NONE);
  }

  private static void promise28() {
    ViewedBank x = rowsOfAllKinds(3);
    due("alike(10, 0)", x.alike(10, 0), NONE);
    due("alike(0, 10)", x.alike(0, 10), NONE);
    due("alike(-1, 0)", x.alike(-1, 0), NONE);
    due("alike(0, -1)", x.alike(0, -1), NONE);
    due("bytes and doubles", x.alike(1, 7), ABSENT);
    due("bits and bytes", x.alike(0, 1), 0);
    due("boxes and LABELS, all MISSING", x.alike(8, 9), ABSENT);
    x.box(8, 0, 9, 4);
    due("MISSING and a LABEL", x.alike(8, 9), 0);
    x.box(9, 0, 9, 4);
    due("LABELS alike", x.alike(8, 9), ABSENT);
    x.box(9, 0, 9, 5);
    due("LABELS not alike", x.alike(8, 9), 0);
    x.write(4, 2, 4, 7);
    due("ints and longs", x.alike(4, 5), 2);
    x.write(5, 2, 5, 7);
    due("ints and longs", x.alike(4, 5), ABSENT);
    x.real(7, 0, 7, 0, -1);
    due("-0.0 and 0.0", x.alike(7, 6), ABSENT);
    due("-0.0 and 0", x.alike(1, 7), ABSENT);
    x.write(5, 0, 5, 16777217);
    x.write(6, 0, 6, 16777217);
    due("as doubles, not as floats", x.alike(5, 6), 0);
    x.make(0, 4, 2);
    x.make(1, 3, 3);
    due("one has more", x.alike(0, 1), 2);
    due("one has more", x.alike(1, 0), 2);
    x.make(0, 4, 0);
    due("one has none", x.alike(0, 1), 0);
    x.make(1, 9, 0);
    due("both have none", x.alike(0, 1), ABSENT);
    x.thing(2, 0, 1);
    x.thing(3, -1, 1);
    due("a THING and NOTHING", x.alike(2, 3), NOTHING);
    due("NOTHING and a THING", x.alike(3, 2), NOTHING);
    due("a ROW and NOTHING", x.alike(1, 3), NOTHING);
    due("a ROW and a THING", x.alike(1, 2), KIND);
    due("a THING and a ROW", x.alike(2, 1), KIND);
    due("a THING and itself", x.alike(2, 2), KIND);
  }

  private static void promise29() {
    ViewedBank x = new ViewedBank();
    long z = 1;
    for (int s = 0; s < 10; s++) {
      z = 31 * z + 218;
    }
    due("digest(-1)", x.digest(-1), z);
    due("digest(10)", x.digest(10), NO);
    due("digest(-2)", x.digest(-2), NO);
    x.thing(9, 0, -3);
    due("digest(9)", x.digest(9), 31 * 219 - 3);
    due("digest(-1)", x.digest(-1), z - 218 + 31 * 219 - 3);
    x.make(9, 8, 2);
    x.box(9, 0, 10, 4);
    due("digest(9)", x.digest(9), ((((((31L * 7 + 3 + 8) * 31 + 2) * 31 + 10) * 31 + 4) * 31 + 8) * 31 + 0));
    x.make(9, 6, 1);
    x.write(9, 0, 6, -1);
    due("digest(9)", x.digest(9), (((31L * 7 + 3 + 6) * 31 + 1) * 31 + 6) * 31 + Float.floatToIntBits(-1f));
    x.make(9, 0, 0);
    due("digest(9)", x.digest(9), (31L * 7 + 3) * 31);
  }

  private static void promise30() {
    ViewedBank x = rowsOfAllKinds(2);
    due("spell(10)", x.spell(10), NONE);
    due("spell(-1)", x.spell(-1), NONE);
    String[] first = {"z 0 0", "b 0 0", "c 0 0", "s 0 0", "i 0 0", "j 0 0", "f 0 0", "d 0 0", "o - -", "l - -"};
    for (int k = 0; k <= 9; k++) {
      dueSpelled(x, k, first[k]);
    }
    x.write(5, 0, 5, Long.MIN_VALUE);
    x.write(5, 1, 5, Long.MAX_VALUE);
    dueSpelled(x, 5, "j -9223372036854775808 9223372036854775807");
    x.real(6, 0, 6, 0, -1);
    x.write(6, 1, 6, 1);
    dueSpelled(x, 6, "f -2147483648 1065353216");
    x.real(7, 0, 7, 0, -1);
    dueSpelled(x, 7, "d -9223372036854775808 0");
    x.write(0, 1, 0, 10);
    x.write(2, 1, 2, 65);
    dueSpelled(x, 0, "z 0 1");
    dueSpelled(x, 2, "c 0 65");
    x.box(8, 0, 10, 9);
    x.box(8, 1, 9, Integer.MIN_VALUE);
    dueSpelled(x, 8, "o w9 l-2147483648");
    x.thing(1, 1, 1);
    due("spell(1)", x.spell(1), KIND);
    x.thing(1, -1, 1);
    due("spell(1)", x.spell(1), NOTHING);
    due("count(7) stays", x.count(7), "o w9 l-2147483648".length());
    ViewedBank y = new ViewedBank();
    y.make(0, 5, 32);
    y.window(0, 0, 0, 1, 32, 8);
    y.fill(0, 5, Long.MIN_VALUE);
    due("the longest", y.spell(0), 1 + 32 * 21);
    due("its last byte", y.paper(32 * 21), '8');
    y.make(0, 0, 0);
    dueSpelled(y, 0, "z");
  }

  private static void promise31() {
    ViewedBank x = new ViewedBank();
    due("paper(0)", x.paper(0), NONE);
    x.make(0, 4, 1);
    x.write(0, 0, 4, -10);
    x.spell(0);
    String text = "i -10";
    for (int i = 0; i < text.length(); i++) {
      due("paper(" + i + ")", x.paper(i), text.charAt(i));
    }
    due("paper(5)", x.paper(5), NONE);
    due("paper(-1)", x.paper(-1), NONE);
    due("paper(max)", x.paper(Integer.MAX_VALUE), NONE);
    due("paper(min)", x.paper(Integer.MIN_VALUE), NONE);
    x.write(0, 0, 4, 1);
    due("THE PAPER stays", x.paper(3), '1');
    x.spell(0);
    due("paper(3) of a shorter one", x.paper(3), NONE);
  }

  private static void promise32() {
    ViewedBank x = new ViewedBank();
    due("feed(0)", x.feed(0), BAD);
    due("feed(128)", x.feed(128), BAD);
    due("feed(-1)", x.feed(-1), BAD);
    due("count(6)", x.count(6), 0);
    due("feed(1)", x.feed(1), 1);
    due("feed(127)", x.feed(127), 2);
    for (int k = 3; k <= 120; k++) {
      due("feed", x.feed('0'), k);
    }
    due("feed of a full tape", x.feed('0'), FULL);
    due("BAD ahead of FULL", x.feed(0), BAD);
    due("count(6)", x.count(6), 120);
    due("run()", x.run(), -1000);
    due("feed(48)", x.feed(48), 1);
  }

  private static void promise33() {
    faultsOfTexts();
    textsThatRun();
    mostLinesAndMore();
  }

  private static void faultsOfTexts() {
    ViewedBank x = rowsOfAllKinds(2);
    String[] faulty = {"", "a", "0", "0.", "0.1", "0.12", "0.123<41", "0.1>", "0.1=", "0.1=1", "0.1=1.", "0.1=1.2", "0.1=1.23",
        "0.1=1.234:", "0.1=1.2:", "0.1=1.2:9", "0.1=1.2:88", "0.1<", "0.1<4", "0.1<4-", "0.1<4--1", "0.1<4+1", "0.1<48;", "0.1<8;;",
        "0.1<80", "0.1<8-", "0.1<41234567890", "0.1<4-1234567890", "0.1<41 ", " 0.1<41", "0..1", "0.-1<41", "0.1<41;0.1<41;x", "00.1<41",
        ".1<41", "0.<41", "0.1=.2:4", "0.1=1.:4", "0.1<-1", "0.1<41;.1<41"};
    int[] faults = {0, 0, 1, 2, 3, 4, 4, 3, 4, 5, 6, 7, 8, 8, 8, 8, 9, 4, 5, 6, 6, 5, 7, 6, 5, 5, 14, 15, 6, 0, 2, 2, 14, 1, 0, 2, 4, 6, 4, 7};
    for (int k = 0; k < faulty.length; k++) {
      due("run() of '" + faulty[k] + "'", runText(x, faulty[k]), -1000 - faults[k]);
      due("count(6)", x.count(6), 0);
    }
    due("nothing was put", x.count(4), 0);
  }

  private static void textsThatRun() {
    ViewedBank x = rowsOfAllKinds(32);
    due("run", runText(x, "4.0<4-999999999;4.31=4.0:4;5.09=4.31:5;9.1<9-7;9.2=9.1:8;8.0<8;8.1<01;8.2<775"), 8);
    dueRead(x, 4, 31, 8, 4, -999999999);
    dueRead(x, 5, 9, 8, 5, -999999999);
    dueRead(x, 9, 2, 8, 9, -7);
    dueRead(x, 8, 1, 8, 0, 1);
    dueRead(x, 8, 2, 8, 7, Double.doubleToLongBits(75.0));
    due("one ACT", x.count(4), 1);
    due("act(0, 0)", x.act(0, 0), 8);
    due("act(0, 11)", x.act(0, 11), 31);
    due("a row has no cell 32", runText(x, "4.1<41;4.32<41"), -101);
    dueStop(x, 1, 1, PLACE);
    dueRead(x, 4, 1, 4, 4, 0);
    due("by VIEW 4 into boxes", runText(x, "8.3=4.0:4"), -100);
    dueStop(x, 0, 1, KIND);
    due("by VIEW 8 into boxes", runText(x, "8.3=4.0:8"), 1);
    due("the reading is refused", runText(x, "8.3<8;4.2=9.1:4"), -101);
    dueStop(x, 1, 0, KIND);
    dueRead(x, 8, 3, 8, 4, -999999999);
    due("MISSING into ints", runText(x, "4.99<8"), -100);
    dueStop(x, 0, 1, KIND);
    due("the most LINES", runText(x, "8.0<8;8.1<8;8.2<8;8.3<8;8.4<8;8.5<8;8.6<8;8.7<8;8.8<8;8.9<8;"
        + "8.0<8;8.1<8;8.2<8;8.3<8;8.4<8;8.5<8;8.6<8;8.7<8;8.8<8;8.9<8"), 20);
  }

  private static void mostLinesAndMore() {
    ViewedBank x = new ViewedBank();
    x.make(8, 8, 4);
    due("twenty LINES and a ;", runText(x, "8.0<8;8.0<8;8.0<8;8.0<8;8.0<8;8.0<8;8.0<8;8.0<8;8.0<8;8.0<8;"
        + "8.0<8;8.0<8;8.0<8;8.0<8;8.0<8;8.0<8;8.0<8;8.0<8;8.0<8;8.0<8;"), -1120);
    due("count(4)", x.count(4), 0);
  }

  private static void promise34() {
    ViewedBank x = new ViewedBank();
    due("image() of nothing", x.image(), 0);
    x.make(0, 4, 2);
    x.make(1, 4, 2);
    x.same(2, 0);
    x.thing(3, 0, 5);
    due("rows that are ALIKE are two", x.image(), 2);
    x.write(0, 0, 4, 3);
    x.window(0, 0, 0, 1, 2, 8);
    due("image()", x.image(), 2);
    x.write(0, 0, 4, 4);
    due("ACTS stay", x.count(4), 2);
    due("TOUCHED stay", x.of(0, 3), 1);
    x.back();
    dueSpelled(x, 0, "i 3 0");
  }

  private static void promise35() {
    ViewedBank x = new ViewedBank();
    due("back()", x.back(), STATE);
    x.make(0, 4, 2);
    x.same(1, 0);
    x.make(2, 8, 2);
    x.thing(3, 1, 5);
    x.window(4, 2, 1, -1, 2, 3);
    x.window(0, 0, 0, 1, 1, 8);
    x.box(2, 0, 10, 7);
    x.write(0, 1, 4, 9);
    x.undo();
    x.image();
    long digest = x.digest(-1);
    x.write(1, 0, 4, 6);
    x.box(2, 0, 8, 7);
    x.same(3, 2);
    x.make(1, 5, 1);
    x.thing(0, -1, 0);
    x.window(4, 0, 0, 0, 0, 0);
    x.read(9, 0, 0);
    x.spell(2);
    x.feed('0');
    for (int k = 0; k < 3; k++) {
      due("back()", x.back(), 2);
      due("digest(-1)", x.digest(-1), digest);
      due("held by several again", x.of(0, 2), 2);
      due("windowOf(4, 0)", x.windowOf(4, 0), 2);
      due("windowOf(4, 1)", x.windowOf(4, 1), 1);
      due("windowOf(4, 2)", x.windowOf(4, 2), -1);
      due("windowOf(4, 3)", x.windowOf(4, 3), 2);
      due("windowOf(4, 4)", x.windowOf(4, 4), 3);
      due("undo()", x.undo(), STATE);
      due("redo()", x.redo(), STATE);
      due("count(4)", x.count(4), 0);
      due("count(5)", x.count(5), 0);
      due("count(8)", x.count(8), 0);
      due("windowOf(0, 3)", x.windowOf(0, 3), 1);
      due("of(0, 4)", x.of(0, 4), ABSENT);
      x.write(1, 1, 4, 5);
      dueRead(x, 0, 1, 4, 4, 5);
      due("of(0, 3)", x.of(0, 3), 1);
      x.window(4, 0, 0, 0, 0, 0);
    }
    x.back();
    x.make(2, 4, 1);
    due("no ACT comes again, count(4)", x.count(4), 0);
    due("no ACT comes again, count(5)", x.count(5), 0);
    due("refusals stay counted", x.count(11), 1);
    due("THE TAPE stays", x.count(6), 1);
    due("THE PAPER stays", x.paper(0), 'o');
    due("THE LATCH stays", x.latch(1), 5);
  }

  private static void promise36() {
    ViewedBank x = new ViewedBank();
    due("count(-1)", x.count(-1), NONE);
    due("count(9)", x.count(9), NONE);
    due("count(10)", x.count(10), NONE);
    due("count(14)", x.count(14), NONE);
    due("count(min)", x.count(Integer.MIN_VALUE), NONE);
    due("count(max)", x.count(Integer.MAX_VALUE), NONE);
    x.make(0, 4, 3);
    x.same(1, 0);
    x.make(2, 4, 3);
    x.make(9, 9, 0);
    x.thing(3, 0, 1);
    x.same(4, 3);
    x.thing(5, 1, 1);
    x.write(1, 0, 4, 1);
    x.write(0, 2, 4, 1);
    x.write(2, 2, 4, 1);
    x.undo();
    x.feed('0');
    x.spell(9);
    int[] told = {4, 3, 3, 6, 2, 1, 1, 1, 3};
    for (int what = 0; what < told.length; what++) {
      due("count(" + what + ")", x.count(what), told[what]);
    }
    x.read(6, 0, 0);
    x.write(6, 0, 0, 0);
    x.real(6, 0, 6, 1, 1);
    x.box(6, 0, 0, 0);
    x.read(3, 0, 0);
    x.write(0, 0, 5, 0);
    x.real(0, 0, 6, 1, 1);
    x.box(0, 0, 8, 0);
    x.box(0, 0, 9, 0);
    x.read(0, 3, 4);
    x.write(0, 3, 4, 0);
    x.real(0, 3, 6, 1, 1);
    x.box(0, 3, 4, 1);
    x.look(0, 0);
    x.box(0, -1, 4, 1);
    due("count(11)", x.count(11), 4);
    due("count(12)", x.count(12), 5);
    due("count(13)", x.count(13), 6);
    x.read(10, 0, 0);
    x.write(0, 9, 8, 0);
    x.real(0, 9, 6, 1, 0);
    x.box(0, 9, 10, 10);
    x.window(0, 6, 0, 1, 2, 4);
    x.copy(0, 0, 0);
    x.fill(0, 4, 0);
    x.swap(0, 0);
    runText(x, ".0<41");
    x.views(6);
    x.alike(6, 0);
    due("others are not counted, 11", x.count(11), 4);
    due("others are not counted, 12", x.count(12), 5);
    due("others are not counted, 13", x.count(13), 6);
  }

  private static void run(int number) {
    promise = number;
    switch (number) {
      case 1: promise1(); break;
      case 2: promise2(); break;
      case 3: promise3(); break;
      case 4: promise4(); break;
      case 5: promise5(); break;
      case 6: promise6(); break;
      case 7: promise7(); break;
      case 8: promise8(); break;
      case 9: promise9(); break;
      case 10: promise10(); break;
      case 11: promise11(); break;
      case 12: promise12(); break;
      case 13: promise13(); break;
      case 14: promise14(); break;
      case 15: promise15(); break;
      case 16: promise16(); break;
      case 17: promise17(); break;
      case 18: promise18(); break;
      case 19: promise19(); break;
      case 20: promise20(); break;
      case 21: promise21(); break;
      case 22: promise22(); break;
      case 23: promise23(); break;
      case 24: promise24(); break;
      case 25: promise25(); break;
      case 26: promise26(); break;
      case 27: promise27(); break;
      case 28: promise28(); break;
      case 29: promise29(); break;
      case 30: promise30(); break;
      case 31: promise31(); break;
      case 32: promise32(); break;
      case 33: promise33(); break;
      case 34: promise34(); break;
      case 35: promise35(); break;
      case 36: promise36(); break;
      default: face();
    }
  }

  public static void main(String[] args) {
    for (int number = 0; number <= 36; number++) {
      run(number);
    }
    System.out.println(wrong == 0 ? "all promises hold" : wrong + " answers are not as due");
    if (wrong != 0) {
      System.exit(1);
    }
  }
}
