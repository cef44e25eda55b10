import java.lang.reflect.Array;
import java.util.ArrayList;
import java.util.BitSet;
import java.util.IdentityHashMap;
import java.util.List;
import java.util.Map;
import java.util.Random;
import java.util.regex.Matcher;
import java.util.regex.Pattern;

/**
 * Runs of calls drawn by fixed seeds, answered by ViewedBank and by a second
 * program that was written another way: over Java's own arrays, boxes and
 * java.lang.reflect.Array. Prints each call on which the two differ.
 */
public final class OracleTest {
  private static final int RUNS = 3000, CALLS = 512;

  static final class Label {
    final int number;
    Label(int number) { this.number = number; }
  }

  /** A put of one cell: what it was, what it is. */
  static final class Cell {
    final Object row; final int place; final Object was, is;
    Cell(Object row, int place, Object was, Object is) { this.row = row; this.place = place; this.was = was; this.is = is; }
  }

  static final class Refused extends Exception {
    private static final long serialVersionUID = 1L;
    final int j, side, why;
    Refused(int j, int side, int why) { this.j = j; this.side = side; this.why = why; }
  }

  static final class Model {
    static final Class<?>[] TYPES = {boolean.class, byte.class, char.class, short.class, int.class, long.class,
        float.class, double.class, Object.class, Label.class};
    static final String LINE = "[0-9]\\.[0-9]{1,2}(=[0-9]\\.[0-9]{1,2}:[0-8]|<(8|[0-79]-?[0-9]{1,9}))";
    static final Pattern TEXT = Pattern.compile(LINE + "(;" + LINE + ")*");

    Object[] slots = new Object[10];
    int[][] windows = new int[6][];
    Object[] keptSlots = null;
    int[][] keptWindows = null;
    Object latch = null;
    int[] stop = null;
    final List<List<Cell>> done = new ArrayList<>();
    final List<List<Cell>> undone = new ArrayList<>();
    Map<Object, BitSet> touched = new IdentityHashMap<>();
    List<Cell> now = new ArrayList<>();
    String paper = "";
    StringBuilder tape = new StringBuilder();
    final int[] refusals = new int[3];

    Model() { for (int w = 0; w < 6; w++) windows[w] = new int[] {0, 0, 1, 0, 8}; }

    static boolean in(int x, int low, int high) { return x >= low && x <= high; }
    static boolean isRow(Object o) { return o != null && o.getClass().isArray(); }
    static int kindOf(Object row) {
      for (int k = 0; k < 10; k++) if (row.getClass().getComponentType() == TYPES[k]) return k;
      throw new IllegalStateException();
    }

    static Object boxBy(int kind, long v) {
      switch (kind) {
        case 0: return v != 0;
        case 1: return (byte) v;
        case 2: return (char) v;
        case 3: return (short) v;
        case 4: return (int) v;
        case 5: return v;
        case 6: return (float) v;
        case 7: return (double) v;
        case 8: return null;
        case 9: return new Label((int) v);
        default: return "abcdefghi".substring(0, (int) v);
      }
    }

    static int boxKind(Object o) {
      if (o == null) return 8;
      if (o instanceof Label) return 9;
      if (o instanceof String) return 10;
      Class<?>[] boxes = {Boolean.class, Byte.class, Character.class, Short.class, Integer.class, Long.class, Float.class, Double.class};
      for (int k = 0; k < 8; k++) if (boxes[k] == o.getClass()) return k;
      throw new IllegalStateException();
    }

    static long value(Object o) {
      if (o == null) return 0;
      if (o instanceof Label) return ((Label) o).number;
      if (o instanceof String) return ((String) o).length();
      if (o instanceof Boolean) return (Boolean) o ? 1 : 0;
      if (o instanceof Character) return (Character) o;
      if (o instanceof Float) return Float.floatToIntBits((Float) o);
      if (o instanceof Double) return Double.doubleToLongBits((Double) o);
      return ((Number) o).longValue();
    }

    static Long amount(Object o) {
      if (o == null || o instanceof Label || o instanceof String) return null;
      if (o instanceof Float) return (long) ((Float) o).floatValue();
      if (o instanceof Double) return (long) ((Double) o).doubleValue();
      return value(o);
    }

    static double asDouble(Object o) {
      return o instanceof Character ? (Character) o : ((Number) o).doubleValue();
    }

    static boolean alikeBoxes(Object a, Object b) {
      int k = boxKind(a), m = boxKind(b);
      if (in(k, 1, 7) && in(m, 1, 7)) {
        return in(k, 1, 5) && in(m, 1, 5) ? value(a) == value(b) : asDouble(a) == asDouble(b);
      }
      return k == m && value(a) == value(b);
    }

    static int why(RuntimeException e) {
      if (e instanceof NullPointerException) return -11;
      if (e instanceof ArrayIndexOutOfBoundsException) return -13;
      if (e instanceof IllegalArgumentException) return -12;
      throw e;
    }

    static Object get(Object row, int i, int view) {
      switch (view) {
        case 0: return Array.getBoolean(row, i);
        case 1: return Array.getByte(row, i);
        case 2: return Array.getChar(row, i);
        case 3: return Array.getShort(row, i);
        case 4: return Array.getInt(row, i);
        case 5: return Array.getLong(row, i);
        case 6: return Array.getFloat(row, i);
        case 7: return Array.getDouble(row, i);
        default: return Array.get(row, i);
      }
    }

    void set(Object row, int i, int view, Object what) {
      Object was = isRow(row) && i >= 0 && i < Array.getLength(row) ? Array.get(row, i) : null;
      switch (view) {
        case 0: Array.setBoolean(row, i, (Boolean) what); break;
        case 1: Array.setByte(row, i, (Byte) what); break;
        case 2: Array.setChar(row, i, (Character) what); break;
        case 3: Array.setShort(row, i, (Short) what); break;
        case 4: Array.setInt(row, i, (Integer) what); break;
        case 5: Array.setLong(row, i, (Long) what); break;
        case 6: Array.setFloat(row, i, (Float) what); break;
        case 7: Array.setDouble(row, i, (Double) what); break;
        default: Array.set(row, i, what);
      }
      now.add(new Cell(row, i, was, Array.get(row, i)));
    }

    // ---- slots

    void hold(int slot, Object what) {
      slots[slot] = what;
      List<Object> held = List.of();
      held = new ArrayList<>();
      for (Object o : slots) if (isRow(o)) held.add(o);
      final List<Object> rows = held;
      done.removeIf(act -> act.stream().anyMatch(c -> rows.stream().noneMatch(r -> r == c.row)));
      undone.removeIf(act -> act.stream().anyMatch(c -> rows.stream().noneMatch(r -> r == c.row)));
    }

    int make(int slot, int kind, int n) {
      if (!in(slot, 0, 9)) return -1;
      if (!in(kind, 0, 9) || n > 32) return -2;
      if (n < 0) return -14;
      hold(slot, Array.newInstance(TYPES[kind], n));
      return 1;
    }

    int thing(int slot, int what, int number) {
      if (!in(slot, 0, 9)) return -1;
      if (!in(what, -1, 1)) return -2;
      if (what == 1 && !in(number, 0, 9)) return -2;
      hold(slot, what == -1 ? null : what == 0 ? new Label(number) : boxBy(10, number));
      return 1;
    }

    int same(int slot, int other) {
      if (!in(slot, 0, 9) || !in(other, 0, 9)) return -1;
      hold(slot, slots[other]);
      return 1;
    }

    int rowTrouble(int slot) { return slots[slot] == null ? -11 : isRow(slots[slot]) ? 0 : -12; }

    int of(int slot, int what) {
      if (!in(slot, 0, 9) || !in(what, 0, 4)) return -1;
      Object o = slots[slot];
      if (what == 0) return o == null ? -1 : isRow(o) ? kindOf(o) : boxKind(o) + 1;
      if (rowTrouble(slot) != 0) return rowTrouble(slot);
      if (what == 1) return Array.getLength(o);
      if (what == 2) { int n = 0; for (Object p : slots) if (p == o) n++; return n; }
      BitSet bits = touched.getOrDefault(o, new BitSet());
      if (what == 3) return bits.cardinality();
      return bits.isEmpty() ? -5 : bits.nextSetBit(0);
    }

    // ---- cells

    int tell(int told) { if (in(told, -13, -11)) refusals[-11 - told]++; return told; }

    int read(int slot, int i, int view) {
      if (!in(slot, 0, 9) || !in(view, 0, 8)) return -1;
      try { latch = get(slots[slot], i, view); return 1; } catch (RuntimeException e) { return tell(why(e)); }
    }

    long latch(int what) {
      if (what == 0) return boxKind(latch);
      if (what == 1) return value(latch);
      return what == 2 && amount(latch) != null ? amount(latch) : Long.MIN_VALUE;
    }

    int alone(int slot, int i, int view, Object what) {
      now.clear();
      try { set(slots[slot], i, view, what); } catch (RuntimeException e) { return tell(why(e)); }
      keep();
      return 1;
    }

    void keep() {
      if (now.isEmpty()) return;
      done.add(now);
      if (done.size() > 24) done.remove(0);
      undone.clear();
      for (Cell c : now) touched.computeIfAbsent(c.row, r -> new BitSet()).set(c.place);
      now = new ArrayList<>();
    }

    int write(int slot, int i, int view, long v) {
      if (!in(slot, 0, 9) || !in(view, 0, 7)) return -1;
      return alone(slot, i, view, boxBy(view, v));
    }

    int real(int slot, int i, int view, int above, int below) {
      if (!in(slot, 0, 9) || !in(view, 6, 7)) return -1;
      if (below == 0) return -2;
      Object q;
      if (view == 6) q = (float) above / (float) below; else q = (double) above / (double) below;
      return alone(slot, i, view, q);
    }

    int box(int slot, int i, int kind, long v) {
      if (!in(slot, 0, 9) || !in(kind, 0, 10)) return -1;
      if (kind == 10 && (v < 0 || v > 9)) return -2;
      return alone(slot, i, 8, boxBy(kind, v));
    }

    // ---- windows

    int window(int w, int slot, int from, int step, int many, int view) {
      if (!in(w, 0, 5) || !in(slot, 0, 9)) return -1;
      if (!in(from, -9, 40) || !in(step, -3, 3) || !in(many, 0, 32) || !in(view, 0, 8)) return -2;
      windows[w] = new int[] {slot, from, step, many, view};
      return 1;
    }

    int windowOf(int w, int what) { return in(w, 0, 5) && in(what, 0, 4) ? windows[w][what] : -1; }

    Object through(int w, int j, int view) {
      int[] x = windows[w];
      if (j < 0 || j >= x[3]) throw new ArrayIndexOutOfBoundsException();
      return get(slots[x[0]], x[1] + j * x[2], view);
    }

    void into(int w, int j, int view, Object what) {
      int[] x = windows[w];
      if (j < 0 || j >= x[3]) throw new ArrayIndexOutOfBoundsException();
      set(slots[x[0]], x[1] + j * x[2], view, what);
    }

    int look(int w, int j) {
      if (!in(w, 0, 5)) return -1;
      try { latch = through(w, j, windows[w][4]); return 1; } catch (RuntimeException e) { return tell(why(e)); }
    }

    int[] faultOf(int w) {
      for (int j = 0; j < windows[w][3]; j++) {
        try {
          if (amount(through(w, j, windows[w][4])) == null) return new int[] {j, -12};
        } catch (RuntimeException e) { return new int[] {j, why(e)}; }
      }
      return new int[] {-5, -5};
    }

    long sum(int w) {
      if (!in(w, 0, 5) || faultOf(w)[0] != -5) return Long.MIN_VALUE;
      long z = 0;
      for (int j = 0; j < windows[w][3]; j++) z += amount(through(w, j, windows[w][4]));
      return z;
    }

    int fault(int w, int what) { return in(w, 0, 5) && in(what, 0, 1) ? faultOf(w)[what] : -1; }

    static int order(Object a, Object b) {
      if (a instanceof Float || a instanceof Double) {
        double x = asDouble(a), y = asDouble(b);
        return x < y ? -1 : x > y ? 1 : 0;
      }
      return Long.compare(value(a), value(b));
    }

    int least(int w, int i) {
      if (!in(w, 0, 5) || i < 0) return -1;
      if (windows[w][4] == 8) return -2;
      if (faultOf(w)[0] != -5) return faultOf(w)[1];
      List<Integer> all = new ArrayList<>();
      for (int j = 0; j < windows[w][3]; j++) all.add(j);
      all.sort((a, b) -> order(through(w, a, windows[w][4]), through(w, b, windows[w][4])));
      return i < all.size() ? all.get(i) : -5;
    }

    int find(int w, int j, int kind, long v) {
      if (!in(w, 0, 5) || j < 0 || !in(kind, 0, 10)) return -1;
      if (kind == 10 && (v < 0 || v > 9)) return -2;
      Object wanted = boxBy(kind, v);
      for (int k = j; k < windows[w][3]; k++) {
        try {
          if (alikeBoxes(through(w, k, windows[w][4]), wanted)) return k;
        } catch (RuntimeException e) { why(e); }
      }
      return -5;
    }

    // ---- moves

    interface Step { Object go(); }

    static Object tried(int j, int side, Step step) throws Refused {
      try { return step.go(); } catch (RuntimeException e) { throw new Refused(j, side, why(e)); }
    }

    int refused(Refused r) {
      for (int k = now.size() - 1; k >= 0; k--) Array.set(now.get(k).row, now.get(k).place, now.get(k).was);
      now.clear();
      stop = new int[] {r.j, r.side, r.why};
      return -100 - r.j;
    }

    int copy(int w, int o, int how) {
      if (!in(w, 0, 5) || !in(o, 0, 5) || !in(how, 0, 1)) return -1;
      int n = windows[w][3], view = windows[w][4];
      now.clear();
      try {
        Object[] all = new Object[n];
        for (int j = 0; how == 1 && j < n; j++) { int k = j; all[j] = tried(j, 0, () -> through(w, k, view)); }
        for (int j = 0; j < n; j++) {
          int k = j;
          if (how == 0) all[j] = tried(j, 0, () -> through(w, k, view));
          tried(j, 1, () -> { into(o, k, view, all[k]); return null; });
        }
      } catch (Refused r) { return refused(r); }
      keep();
      return n;
    }

    int swap(int w, int o) {
      if (!in(w, 0, 5) || !in(o, 0, 5)) return -1;
      int n = windows[w][3];
      now.clear();
      try {
        for (int j = 0; j < n; j++) {
          int k = j;
          Object a = tried(j, 0, () -> through(w, k, 8));
          Object b = tried(j, 1, () -> through(o, k, 8));
          tried(j, 2, () -> { into(o, k, 8, a); return null; });
          tried(j, 3, () -> { into(w, k, 8, b); return null; });
        }
      } catch (Refused r) { return refused(r); }
      keep();
      return n;
    }

    int fill(int w, int kind, long v) {
      if (!in(w, 0, 5) || !in(kind, 0, 10)) return -1;
      if (kind == 10 && (v < 0 || v > 9)) return -2;
      Object what = boxBy(kind, v);
      now.clear();
      try {
        for (int j = 0; j < windows[w][3]; j++) { int k = j; tried(j, 1, () -> { into(w, k, 8, what); return null; }); }
      } catch (Refused r) { return refused(r); }
      keep();
      return windows[w][3];
    }

    int stop(int what) { return !in(what, 0, 2) ? -1 : stop == null ? -3 : stop[what]; }

    // ---- the journal

    int undo() {
      if (done.isEmpty()) return -3;
      List<Cell> act = done.remove(done.size() - 1);
      for (int k = act.size() - 1; k >= 0; k--) Array.set(act.get(k).row, act.get(k).place, act.get(k).was);
      undone.add(act);
      return act.size();
    }

    int redo() {
      if (undone.isEmpty()) return -3;
      List<Cell> act = undone.remove(undone.size() - 1);
      for (Cell c : act) Array.set(c.row, c.place, c.is);
      done.add(act);
      return act.size();
    }

    int act(int i, int what) {
      if (i < 0 || i >= done.size()) return -1;
      List<Cell> act = done.get(i);
      if (what == 0) return act.size();
      return what >= 10 && what < 10 + act.size() ? act.get(what - 10).place : -1;
    }

    // ---- in thought

    int views(int slot) {
      if (!in(slot, 0, 9)) return -1;
      if (rowTrouble(slot) != 0) return rowTrouble(slot);
      Object probe = Array.newInstance(slots[slot].getClass().getComponentType(), 1);
      int bits = 0;
      for (int view = 0; view <= 8; view++) {
        try { get(probe, 0, view); bits |= 1 << view; } catch (IllegalArgumentException e) { bits |= 0; }
      }
      return bits;
    }

    int takes(int slot, int kind) {
      if (!in(slot, 0, 9) || !in(kind, 0, 10)) return -1;
      if (rowTrouble(slot) != 0) return rowTrouble(slot);
      Object probe = Array.newInstance(slots[slot].getClass().getComponentType(), 1);
      try { Array.set(probe, 0, boxBy(kind, 1)); return 1; } catch (IllegalArgumentException e) { return 0; }
    }

    int exact(int slot, int view) {
      if (!in(slot, 0, 9) || !in(view, 0, 7)) return -1;
      if (rowTrouble(slot) != 0) return rowTrouble(slot);
      if ((views(slot) >> view & 1) == 0) return -12;
      int n = 0;
      for (int i = 0; i < Array.getLength(slots[slot]); i++) {
        if (amount(Array.get(slots[slot], i)).equals(amount(get(slots[slot], i, view)))) n++;
      }
      return n;
    }

    int alike(int slot, int other) {
      if (!in(slot, 0, 9) || !in(other, 0, 9)) return -1;
      if (slots[slot] == null || slots[other] == null) return -11;
      if (!isRow(slots[slot]) || !isRow(slots[other])) return -12;
      int n = Array.getLength(slots[slot]), m = Array.getLength(slots[other]);
      for (int i = 0; i < Math.max(n, m); i++) {
        if (i >= n || i >= m || !alikeBoxes(Array.get(slots[slot], i), Array.get(slots[other], i))) return i;
      }
      return -5;
    }

    long digest(int slot) {
      if (slot == -1) { long z = 1; for (int s = 0; s < 10; s++) z = 31 * z + digest(s); return z; }
      if (!in(slot, 0, 9)) return Long.MIN_VALUE;
      Object o = slots[slot];
      if (o == null) return 31 * 7 + 1;
      if (!isRow(o)) return 31L * (31 * 7 + 2) + value(o);
      long z = 31 * 7 + 3 + kindOf(o);
      z = 31 * z + Array.getLength(o);
      for (int i = 0; i < Array.getLength(o); i++) {
        Object c = Array.get(o, i);
        z = 31 * z + boxKind(c);
        z = 31 * z + value(c);
      }
      return z;
    }

    int spell(int slot) {
      if (!in(slot, 0, 9)) return -1;
      if (rowTrouble(slot) != 0) return rowTrouble(slot);
      StringBuilder text = new StringBuilder().append("zbcsijfdol".charAt(kindOf(slots[slot])));
      for (int i = 0; i < Array.getLength(slots[slot]); i++) {
        Object c = Array.get(slots[slot], i);
        text.append(' ');
        if (c == null) text.append('-');
        else text.append(c instanceof Label ? "l" : c instanceof String ? "w" : "").append(value(c));
      }
      paper = text.toString();
      return paper.length();
    }

    int paper(int i) { return i >= 0 && i < paper.length() ? paper.charAt(i) : -1; }

    // ---- texts, the image

    int feed(int letter) {
      if (!in(letter, 1, 127)) return -2;
      if (tape.length() == 120) return -4;
      return tape.append((char) letter).length();
    }

    static int faultOfText(String text) {
      for (int p = 1; p <= text.length(); p++) {
        Matcher m = TEXT.matcher(text.substring(0, p));
        if (!m.matches() && !m.hitEnd()) return p - 1;
      }
      return TEXT.matcher(text).matches() ? -1 : text.length();
    }

    int run() {
      String text = tape.toString();
      tape.setLength(0);
      if (faultOfText(text) >= 0) return -1000 - faultOfText(text);
      String[] lines = text.split(";");
      now.clear();
      try {
        for (int k = 0; k < lines.length; k++) runLine(k, lines[k]);
      } catch (Refused r) { return refused(r); }
      keep();
      return lines.length;
    }

    void runLine(int k, String line) throws Refused {
      Object row = slots[line.charAt(0) - '0'];
      String[] parts = line.split("[.=<:]");
      int place = Integer.parseInt(parts[1]);
      if (line.indexOf('=') >= 0) {
        Object source = slots[Integer.parseInt(parts[2])];
        int view = Integer.parseInt(parts[4]);
        Object what = tried(k, 0, () -> get(source, Integer.parseInt(parts[3]), view));
        tried(k, 1, () -> { set(row, place, view, what); return null; });
      } else {
        int kind = parts[2].charAt(0) - '0';
        Object what = boxBy(kind, kind == 8 ? 0 : Long.parseLong(parts[2].substring(1)));
        tried(k, 1, () -> { set(row, place, 8, what); return null; });
      }
    }

    List<Object> unlike() {
      Map<Object, Object> seen = new IdentityHashMap<>();
      for (Object o : slots) if (isRow(o)) seen.put(o, o);
      return new ArrayList<>(seen.keySet());
    }

    static Object[] twins(Object[] from) {
      Map<Object, Object> seen = new IdentityHashMap<>();
      Object[] to = new Object[from.length];
      for (int s = 0; s < from.length; s++) {
        to[s] = from[s];
        if (isRow(from[s])) {
          to[s] = seen.computeIfAbsent(from[s], o -> {
            Object twin = Array.newInstance(o.getClass().getComponentType(), Array.getLength(o));
            System.arraycopy(o, 0, twin, 0, Array.getLength(o));
            return twin;
          });
        }
      }
      return to;
    }

    static int[][] twins(int[][] from) {
      int[][] to = new int[from.length][];
      for (int w = 0; w < from.length; w++) to[w] = from[w].clone();
      return to;
    }

    int image() { keptSlots = twins(slots); keptWindows = twins(windows); return unlike().size(); }

    int back() {
      if (keptSlots == null) return -3;
      slots = twins(keptSlots);
      windows = twins(keptWindows);
      done.clear();
      undone.clear();
      touched = new IdentityHashMap<>();
      return unlike().size();
    }

    int count(int what) {
      int n = 0;
      switch (what) {
        case 0: for (Object o : slots) if (isRow(o)) n++; return n;
        case 1: for (Object o : slots) if (o != null && !isRow(o)) n++; return n;
        case 2: return unlike().size();
        case 3: for (Object o : unlike()) n += Array.getLength(o); return n;
        case 4: return done.size();
        case 5: return undone.size();
        case 6: return tape.length();
        case 7: return paper.length();
        case 8: for (Object o : unlike()) n += touched.getOrDefault(o, new BitSet()).cardinality(); return n;
        case 11: case 12: case 13: return refusals[what - 11];
        default: return -1;
      }
    }
  }

  // ---- the draw

  private static final long[] EDGES = {0, 1, -1, 2, 9, 10, 65, 127, 128, -128, -129, 255, 256, 32767, 32768, -32768, -32769, 65535,
      65536, 16777215, 16777216, 16777217, 16777218, 16777219, -16777217, 33554433, 33554435, Integer.MAX_VALUE, Integer.MIN_VALUE,
      2147483648L, 4294967295L, 4294967296L, 9007199254740991L, 9007199254740992L, 9007199254740993L, 9007199254740995L,
      -9007199254740993L, Long.MAX_VALUE, Long.MAX_VALUE - 511, Long.MAX_VALUE - 512, Long.MIN_VALUE, Long.MIN_VALUE + 1,
      Long.MIN_VALUE + 513};
  private static final int[] ODD = {-1, -2, 11, 33, 41, -10, 100, Integer.MAX_VALUE, Integer.MIN_VALUE, Integer.MIN_VALUE + 5};

  private final Random random;
  private final Model model = new Model();
  private final ViewedBank bank = new ViewedBank();
  private final List<String> told = new ArrayList<>();
  private int wrong = 0;
  private final int oddness;

  private OracleTest(long seed) { random = new Random(seed); oddness = seed % 3 == 0 ? 12 : 60; }

  private int pick(int low, int high) {
    if (random.nextInt(oddness) == 0) return random.nextInt(3) == 0 ? ODD[random.nextInt(ODD.length)] : random.nextBoolean() ? low - 1 : high + 1;
    return low + random.nextInt(high - low + 1);
  }

  private long any() {
    int way = random.nextInt(5);
    if (way == 0) return random.nextLong() >> random.nextInt(64);
    if (way <= 2) return EDGES[random.nextInt(EDGES.length)];
    return random.nextInt(7) - 2;
  }

  private int slot() { return pick(0, 9); }
  private int cell() { return random.nextInt(3) == 0 ? pick(-1, 33) : pick(0, 5); }
  private int win() { return pick(0, 5); }
  private long forKind(int kind) { return kind == 10 && random.nextInt(10) != 0 ? random.nextInt(10) : any(); }

  private void same(String call, long got, long want) {
    told.add(call + " answered " + got);
    if (got != want) { wrong++; System.out.println(call + " answered " + got + ", due is " + want); }
  }

  private void slotsCall() {
    int s = slot(), way = random.nextInt(10);
    if (way < 5) {
      int k = pick(0, 9), n = random.nextInt(3) == 0 ? pick(0, 32) : pick(3, 8);
      same("make(" + s + ", " + k + ", " + n + ")", bank.make(s, k, n), model.make(s, k, n));
    } else if (way < 7) {
      int what = pick(-1, 1), n = random.nextBoolean() ? pick(0, 9) : random.nextInt();
      same("thing(" + s + ", " + what + ", " + n + ")", bank.thing(s, what, n), model.thing(s, what, n));
    } else {
      int o = slot();
      same("same(" + s + ", " + o + ")", bank.same(s, o), model.same(s, o));
    }
  }

  private void cellsCall() {
    int s = slot(), i = cell(), way = random.nextInt(5);
    if (way == 0) {
      int view = pick(0, 8);
      same("read(" + s + ", " + i + ", " + view + ")", bank.read(s, i, view), model.read(s, i, view));
      for (int what = -1; what <= 3; what++) same("latch(" + what + ")", bank.latch(what), model.latch(what));
    } else if (way == 1) {
      int view = pick(0, 7);
      long v = any();
      same("write(" + s + ", " + i + ", " + view + ", " + v + ")", bank.write(s, i, view, v), model.write(s, i, view, v));
    } else if (way == 2) {
      int view = pick(6, 7), a = random.nextBoolean() ? (int) any() : random.nextInt(9) - 4, b = random.nextBoolean() ? (int) any() : random.nextInt(9) - 4;
      same("real(" + s + ", " + i + ", " + view + ", " + a + ", " + b + ")", bank.real(s, i, view, a, b), model.real(s, i, view, a, b));
    } else {
      int k = pick(0, 10);
      long v = forKind(k);
      same("box(" + s + ", " + i + ", " + k + ", " + v + ")", bank.box(s, i, k, v), model.box(s, i, k, v));
    }
  }

  private void windowsCall() {
    int w = win(), way = random.nextInt(9);
    if (way < 4) {
      int s = slot(), f, st, m, v = random.nextInt(3) == 0 ? pick(0, 8) : 8;
      if (random.nextInt(4) == 0) { f = pick(-9, 40); st = pick(-3, 3); m = pick(0, 32); }
      else { f = pick(0, 5); st = pick(-1, 1); m = pick(1, 4); }
      same("window(" + w + ", " + s + ", " + f + ", " + st + ", " + m + ", " + v + ")", bank.window(w, s, f, st, m, v), model.window(w, s, f, st, m, v));
    } else if (way == 4) {
      int what = pick(0, 4);
      same("windowOf(" + w + ", " + what + ")", bank.windowOf(w, what), model.windowOf(w, what));
    } else if (way == 5) {
      int j = pick(0, 4);
      same("look(" + w + ", " + j + ")", bank.look(w, j), model.look(w, j));
      same("latch(1)", bank.latch(1), model.latch(1));
    } else if (way == 6) {
      int what = pick(0, 1), i = pick(0, 4);
      same("sum(" + w + ")", bank.sum(w), model.sum(w));
      same("fault(" + w + ", " + what + ")", bank.fault(w, what), model.fault(w, what));
      same("least(" + w + ", " + i + ")", bank.least(w, i), model.least(w, i));
    } else {
      int j = pick(0, 4), k = pick(0, 10);
      long v = forKind(k);
      same("find(" + w + ", " + j + ", " + k + ", " + v + ")", bank.find(w, j, k, v), model.find(w, j, k, v));
    }
  }

  private void movesCall() {
    int w = win(), o = win(), way = random.nextInt(4);
    if (way < 2) {
      int how = pick(0, 1);
      same("copy(" + w + ", " + o + ", " + how + ")", bank.copy(w, o, how), model.copy(w, o, how));
    } else if (way == 2) {
      same("swap(" + w + ", " + o + ")", bank.swap(w, o), model.swap(w, o));
    } else {
      int k = pick(0, 10);
      long v = forKind(k);
      same("fill(" + w + ", " + k + ", " + v + ")", bank.fill(w, k, v), model.fill(w, k, v));
    }
    int what = pick(0, 2);
    same("stop(" + what + ")", bank.stop(what), model.stop(what));
  }

  private void journalCall() {
    int way = random.nextInt(5);
    if (way < 2) same("undo()", bank.undo(), model.undo());
    else if (way < 4) same("redo()", bank.redo(), model.redo());
    else {
      int i = pick(0, 23), what = random.nextInt(4) == 0 ? pick(0, 20) : random.nextInt(3) == 0 ? 0 : pick(10, 14);
      same("act(" + i + ", " + what + ")", bank.act(i, what), model.act(i, what));
    }
  }

  private void thoughtCall() {
    int s = slot(), way = random.nextInt(6);
    if (way == 0) same("views(" + s + ")", bank.views(s), model.views(s));
    else if (way == 1) { int k = pick(0, 10); same("takes(" + s + ", " + k + ")", bank.takes(s, k), model.takes(s, k)); }
    else if (way == 2) { int v = pick(0, 7); same("exact(" + s + ", " + v + ")", bank.exact(s, v), model.exact(s, v)); }
    else if (way == 3) { int o = slot(); same("alike(" + s + ", " + o + ")", bank.alike(s, o), model.alike(s, o)); }
    else if (way == 4) { int d = pick(-1, 9); same("digest(" + d + ")", bank.digest(d), model.digest(d)); }
    else {
      same("spell(" + s + ")", bank.spell(s), model.spell(s));
      for (int k = 0; k < 6; k++) { int i = random.nextInt(4) == 0 ? pick(0, 700) : pick(0, 20); same("paper(" + i + ")", bank.paper(i), model.paper(i)); }
    }
  }

  private String line() {
    StringBuilder text = new StringBuilder();
    text.append(random.nextInt(10)).append('.').append(random.nextInt(random.nextInt(9) == 0 ? 99 : 4));
    if (random.nextBoolean()) {
      text.append('=').append(random.nextInt(10)).append('.').append(random.nextInt(4)).append(':').append(random.nextBoolean() ? 8 : random.nextInt(9));
    } else {
      int kind = random.nextInt(10);
      text.append('<').append(kind);
      if (kind != 8) text.append(random.nextInt(9) == 0 ? 123456789 : random.nextInt(9) - 4);
    }
    return text.toString();
  }

  private void textCall() {
    StringBuilder text = new StringBuilder(line());
    for (int k = random.nextInt(random.nextInt(5) == 0 ? 12 : 3); k > 0; k--) text.append(';').append(line());
    if (random.nextInt(4) == 0) text.setCharAt(random.nextInt(text.length()), "0189.;:=<-+ a".charAt(random.nextInt(13)));
    if (random.nextInt(6) == 0) text.setLength(random.nextInt(text.length() + 1));
    if (random.nextInt(9) == 0) same("feed", bank.feed(ODD[random.nextInt(2)]), -2);
    for (int k = 0; k < text.length(); k++) {
      int letter = text.charAt(k);
      same("feed(" + letter + ")", bank.feed(letter), model.feed(letter));
    }
    if (random.nextInt(9) != 0) same("run() of " + text, bank.run(), model.run());
  }

  private void imageCall() {
    int way = random.nextInt(6);
    if (way == 0) same("image()", bank.image(), model.image());
    else if (way == 1) same("back()", bank.back(), model.back());
    else if (way < 4) { int what = pick(0, 13); same("count(" + what + ")", bank.count(what), model.count(what)); }
    else { int s = slot(), what = pick(0, 4); same("of(" + s + ", " + what + ")", bank.of(s, what), model.of(s, what)); }
  }

  private void drawCall() {
    int way = random.nextInt(100);
    if (way < 10) slotsCall();
    else if (way < 35) cellsCall();
    else if (way < 50) windowsCall();
    else if (way < 65) movesCall();
    else if (way < 78) journalCall();
    else if (way < 88) thoughtCall();
    else if (way < 92) textCall();
    else imageCall();
  }

  private void compareAll() {
    same("digest(-1)", bank.digest(-1), model.digest(-1));
    for (int what = 0; what <= 14; what++) same("count(" + what + ")", bank.count(what), model.count(what));
    for (int s = 0; s < 10; s++) for (int what = 0; what <= 4; what++) same("of(" + s + ", " + what + ")", bank.of(s, what), model.of(s, what));
  }

  private boolean go(long seed) {
    for (int s = 0; s < 10 && seed % 4 != 0; s++) {
      int k = random.nextInt(10), n = 3 + random.nextInt(5);
      same("make(" + s + ", " + k + ", " + n + ")", bank.make(s, k, n), model.make(s, k, n));
    }
    for (int w = 0; w < 6 && seed % 4 != 0; w++) {
      int s = random.nextInt(10), f = random.nextInt(3), m = random.nextInt(4);
      same("window(" + w + ", " + s + ", " + f + ", 1, " + m + ", 8)", bank.window(w, s, f, 1, m, 8), model.window(w, s, f, 1, m, 8));
    }
    while (told.size() < CALLS - 190 && wrong == 0) {
      drawCall();
      if (wrong == 0) same("digest(-1)", bank.digest(-1), model.digest(-1));
    }
    if (wrong == 0) compareAll();
    if (wrong != 0) {
      System.out.println("in the run of seed " + seed + ", whose calls were:");
      for (String call : told) System.out.println("  " + call);
    }
    return wrong == 0;
  }

  public static void main(String[] args) {
    int failed = 0;
    for (long seed = 1; seed <= RUNS && failed < 3; seed++) {
      if (!new OracleTest(seed).go(seed)) failed++;
    }
    System.out.println(failed == 0 ? RUNS + " runs are as the second program has them" : "runs differ");
    if (failed != 0) System.exit(1);
  }
}
