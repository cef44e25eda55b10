/** Each promise at the edges that its words name: what is refused, in which order, and that it changes nothing. */
public final class PromiseEdgesTest extends Edges {

  // ---- slots

  private static void newObject() {
    in("Promise 1");
    StringBuilder all = new StringBuilder();
    for (int s = 0; s <= 9; s++) all.append("of(" + s + ", 0) = -1\ndigest(" + s + ") = 218\n");
    for (int what = 0; what <= 8; what++) all.append("count(" + what + ") = 0\n");
    for (int what = 11; what <= 13; what++) all.append("count(" + what + ") = 0\n");
    edge("All SLOTS hold NOTHING", all + """
        latch = 8 0 NO
        ! stop(0) = STATE
        ! undo() = STATE
        ! redo() = STATE
        ! act(0, 0) = NONE
        ! paper(0) = NONE
        ! back() = STATE
        """);
  }

  private static void make() {
    in("Promise 2, make");
    edge("A SLOT holds a new ROW of a KIND and n CELLS: 1", """
        make(0, 0, 0) = 1
        make(9, 9, 32) = 1
        make(5, 5, 1) = 1
        of(0, 0) = 0
        of(0, 1) = 0
        of(9, 0) = 9
        of(9, 1) = 32
        write(5, 0, 5, 3)
        same(6, 5)
        make(5, 5, 1) = 1
        row 5 = j 0
        row 6 = j 3
        of(5, 2) = 1
        of(5, 3) = 0
        of(6, 3) = 1
        thing(5, 1, 1)
        make(5, 8, 2) = 1
        row 5 = o - -
        """);
    edge("NONE", """
        scene
        ! make(-1, 0, 0) = NONE
        ! make(10, 0, 0) = NONE
        ! make(MIN, 0, 0) = NONE
        ! make(MAX, 0, 0) = NONE
        ! make(10, 10, 0) = NONE
        ! make(-1, 0, 33) = NONE
        ! make(10, 0, -1) = NONE
        ! make(10, -1, -1) = NONE
        """);
    edge("BAD: kind (0 .. 9), n above 32", """
        scene
        ! make(0, -1, 1) = BAD
        ! make(0, 10, 1) = BAD
        ! make(0, MIN, 1) = BAD
        ! make(0, MAX, 1) = BAD
        ! make(0, 0, 33) = BAD
        ! make(0, 9, MAX) = BAD
        ! make(0, 10, 33) = BAD
        ! make(0, -1, -1) = BAD
        ! make(0, 10, MIN) = BAD
        make(0, 0, 32)
        make(0, 9, 0)
        """);
    edge("SIZE", """
        scene
        ! make(0, 0, -1) = SIZE
        ! make(9, 9, -1) = SIZE
        ! make(1, 4, MIN) = SIZE
        """);
  }

  private static void thing() {
    in("Promise 3, thing");
    edge("A SLOT holds a LABEL (what 0), a WORD (1) by a number, or NOTHING (-1; number does not matter): 1", """
        thing(0, 0, MIN) = 1
        digest(0) = -2147476859
        thing(0, 0, MAX) = 1
        digest(0) = 2147490436
        thing(0, 1, 0) = 1
        digest(0) = 6789
        thing(9, 1, 9) = 1
        digest(9) = 6798
        thing(0, -1, MIN) = 1
        of(0, 0) = -1
        thing(9, -1, 10) = 1
        of(9, 0) = -1
        thing(9, -1, -1) = 1
        make(0, 4, 1)
        write(0, 0, 4, 1)
        thing(0, -1, 0) = 1
        digest(0) = 218
        count(4) = 0
        """);
    edge("NONE", """
        scene
        ! thing(-1, 0, 0) = NONE
        ! thing(10, 1, 0) = NONE
        ! thing(10, -1, 0) = NONE
        ! thing(10, 2, 0) = NONE
        ! thing(-1, 1, 10) = NONE
        ! thing(MIN, 0, 0) = NONE
        ! thing(MAX, 0, 0) = NONE
        """);
    edge("BAD: what, a WORD's number (0 .. 9)", """
        scene
        ! thing(0, 2, 0) = BAD
        ! thing(0, -2, 0) = BAD
        ! thing(0, MAX, 0) = BAD
        ! thing(0, MIN, 0) = BAD
        ! thing(0, 1, -1) = BAD
        ! thing(0, 1, 10) = BAD
        ! thing(3, 1, MAX) = BAD
        ! thing(1, 1, MIN) = BAD
        ! thing(0, 2, 10) = BAD
        """);
  }

  private static void same() {
    in("Promise 4, same");
    edge("A SLOT holds the very ROW (or what else it is) that another one holds: 1", """
        make(0, 4, 2)
        thing(1, 0, MIN)
        thing(2, 1, 0)
        same(9, 0) = 1
        of(9, 2) = 2
        write(9, 0, 4, 3)
        row 0 = i 3 0
        of(0, 3) = 1
        ! same(0, 0) = 1
        ! same(9, 0) = 1
        same(4, 1) = 1
        digest(4) = -2147476859
        same(4, 2) = 1
        digest(4) = 6789
        same(4, 5) = 1
        of(4, 0) = -1
        same(0, 5) = 1
        of(0, 0) = -1
        row 9 = i 3 0
        of(9, 2) = 1
        count(4) = 1
        same(9, 1) = 1
        count(4) = 0
        """);
    edge("NONE", """
        scene
        ! same(10, 0) = NONE
        ! same(0, 10) = NONE
        ! same(-1, 0) = NONE
        ! same(0, -1) = NONE
        ! same(10, 10) = NONE
        ! same(MIN, 0) = NONE
        ! same(0, MAX) = NONE
        """);
  }

  private static void of() {
    in("Promise 5, of");
    edge("what 0 what it holds (-1 NOTHING, 0 .. 9 a ROW of that KIND, 10 a LABEL, 11 a WORD)", """
        scene
        ! of(0, 0) = 4
        ! of(1, 0) = -1
        ! of(2, 0) = 10
        ! of(3, 0) = 11
        ! of(4, 0) = 8
        ! of(5, 0) = 9
        ! of(7, 0) = 7
        ! of(8, 0) = 0
        """);
    edge("1 how many CELLS, 2 how many SLOTS hold the very same, 3 how many CELLS are TOUCHED, 4 the first that is (-5)", """
        scene
        ! of(8, 1) = 0
        ! of(9, 1) = 32
        ! of(0, 2) = 2
        ! of(6, 2) = 2
        ! of(9, 2) = 1
        ! of(0, 3) = 4
        ! of(0, 4) = 0
        ! of(5, 3) = 1
        ! of(5, 4) = 1
        ! of(8, 3) = 0
        ! of(8, 4) = ABSENT
        make(1, 4, 32)
        of(1, 4) = ABSENT
        write(1, 31, 4, 1)
        of(1, 4) = 31
        window(0, 1, 0, 1, 32, 8)
        fill(0, 4, 1)
        of(1, 3) = 32
        of(1, 4) = 0
        """);
    edge("NONE", """
        scene
        ! of(-1, 0) = NONE
        ! of(10, 0) = NONE
        ! of(MIN, 1) = NONE
        ! of(MAX, 1) = NONE
        ! of(0, -1) = NONE
        ! of(0, 5) = NONE
        ! of(0, MIN) = NONE
        ! of(0, MAX) = NONE
        ! of(1, 5) = NONE
        ! of(2, -1) = NONE
        """);
    edge("(1 to 4) NOTHING; KIND", """
        scene
        ! of(1, 1) = NOTHING
        ! of(1, 2) = NOTHING
        ! of(1, 3) = NOTHING
        ! of(1, 4) = NOTHING
        ! of(2, 1) = KIND
        ! of(2, 2) = KIND
        ! of(3, 3) = KIND
        ! of(3, 4) = KIND
        """);
  }

  // ---- cells

  private static void read() {
    in("Promise 6, read");
    edge("READ: 1; THE LATCH has it", """
        scene
        read(9, 31, 8) = 1
        latch = 5 0 0
        read(0, 1, 7) = 1
        latch = 7 d:22 22
        read(4, 0, 8) = 1
        latch = 10 3 NO
        """);
    edge("NONE: slot, view", """
        scene
        ! read(-1, 0, 0) = NONE
        ! read(10, 0, 0) = NONE
        ! read(0, 0, -1) = NONE
        ! read(0, 0, 9) = NONE
        ! read(1, 0, 9) = NONE
        ! read(2, 99, -1) = NONE
        ! read(0, 5, 9) = NONE
        ! read(MAX, MIN, MAX) = NONE
        ! read(0, 0, MIN) = NONE
        """);
    edge("refusals (THE LATCH stays)", """
        scene
        latch = 5 22 22
        ! read(1, 0, 4) = NOTHING
        latch = 5 22 22
        ! read(3, 0, 8) = KIND
        ! read(0, 5, 4) = PLACE
        ! read(0, 1, 2) = KIND
        ! read(4, 0, 4) = KIND
        latch = 5 22 22
        """);
  }

  private static void latch() {
    in("Promise 7, latch");
    edge("Of THE LATCH what 0 the KIND of the BOX (0 .. 10), 1 its VALUE, 2 its AMOUNT (NO: it has none)", """
        make(0, 0, 1)
        make(8, 8, 3)
        ! latch(0) = 8
        ! latch(1) = 0
        ! latch(2) = NO
        read(0, 0, 0)
        ! latch(0) = 0
        ! latch(1) = 0
        ! latch(2) = 0
        box(8, 0, 10, 9)
        box(8, 1, 9, MIN)
        box(8, 2, 5, LEAST)
        read(8, 0, 8)
        ! latch(0) = 10
        ! latch(1) = 9
        ! latch(2) = NO
        read(8, 1, 8)
        ! latch(0) = 9
        ! latch(1) = MIN
        ! latch(2) = NO
        read(8, 2, 8)
        ! latch(0) = 5
        ! latch(1) = LEAST
        ! latch(2) = LEAST
        """);
    edge("NO: what", """
        scene
        ! latch(-1) = NO
        ! latch(3) = NO
        ! latch(MIN) = NO
        ! latch(MAX) = NO
        """);
  }

  private static void write() {
    in("Promise 8, write");
    edge("WRITTEN by a VIEW (0 .. 7) the number that a BOX of that KIND has by v: 1", """
        make(0, 0, 1)
        make(7, 7, 2)
        make(4, 4, 1)
        write(0, 0, 0, LEAST) = 1
        row 0 = z 1
        write(0, 0, 0, 0) = 1
        row 0 = z 0
        write(7, 0, 1, 128) = 1
        write(7, 1, 7, 9007199254740993) = 1
        row 7 = d -4584664420663164928 4845873199050653696
        write(4, 0, 2, -1) = 1
        row 4 = i 65535
        write(4, 0, 3, 65535) = 1
        row 4 = i -1
        write(4, 0, 4, 4294967296) = 1
        row 4 = i 0
        """);
    edge("NONE: slot, view", """
        scene
        ! write(-1, 0, 4, 1) = NONE
        ! write(10, 0, 4, 1) = NONE
        ! write(0, 0, 8, 1) = NONE
        ! write(0, 0, -1, 1) = NONE
        ! write(1, 0, 8, 1) = NONE
        ! write(4, 9, 8, 1) = NONE
        ! write(2, 0, 9, 1) = NONE
        ! write(MAX, MAX, MAX, MOST) = NONE
        ! write(0, 0, MIN, 1) = NONE
        """);
    edge("refusals", """
        scene
        ! write(1, 0, 4, 1) = NOTHING
        ! write(1, -1, 0, 1) = NOTHING
        ! write(2, 0, 4, 1) = KIND
        ! write(3, 9, 4, 1) = KIND
        ! write(4, 0, 4, 1) = KIND
        ! write(5, 3, 4, 1) = KIND
        ! write(0, 5, 4, 1) = PLACE
        ! write(0, -1, 5, 1) = PLACE
        ! write(8, 0, 0, 1) = PLACE
        ! write(0, 0, 5, 1) = KIND
        ! write(0, 4, 0, 1) = KIND
        ! write(0, MAX, 4, 1) = PLACE
        ! write(0, MIN, 4, 1) = PLACE
        """);
  }

  private static void real() {
    in("Promise 9, real");
    edge("WRITTEN as a float (view 6), a double (7): above by below, both as such: 1", """
        make(6, 6, 6)
        make(7, 7, 6)
        real(6, 0, 6, 1, 3) = 1
        real(6, 1, 6, 16777217, 1) = 1
        real(6, 2, 6, 0, -5) = 1
        real(6, 3, 6, 0, 5) = 1
        real(6, 4, 6, MIN, -1) = 1
        real(6, 5, 6, 1, MIN) = 1
        row 6 = f 1051372203 1266679808 -2147483648 0 1325400064 -1342177280
        real(7, 0, 7, 1, 3) = 1
        real(7, 1, 7, 16777217, 1) = 1
        real(7, 2, 7, 0, MIN) = 1
        real(7, 3, 7, MAX, MIN) = 1
        real(7, 4, 6, 1, 3) = 1
        real(7, 5, 6, 0, -1) = 1
        row 7 = d 4599676419421066581 4715268810125344768 -9223372036854775808 -4616189618058952704 4599676419600023552 -9223372036854775808
        """);
    StringBuilder all = new StringBuilder("make(6, 6, 1)\nmake(7, 7, 1)\n");
    int[] edges = {1, -1, 2, 3, 7, -10, 1000, 16777217, 16777219, -33554435, Integer.MAX_VALUE, Integer.MIN_VALUE};
    for (int k = 0; k < edges.length * edges.length; k++) {
      if (k > 0 && k % 36 == 0) {
        edge("above by below, both as such", all.toString());
        all = new StringBuilder("make(6, 6, 1)\nmake(7, 7, 1)\n");
      }
      int above = edges[k / edges.length], below = edges[k % edges.length];
      all.append("real(6, 0, 6, " + above + ", " + below + ")\nread(6, 0, 6)\nlatch = 6 f:" + (float) above / (float) below + "\n");
      all.append("real(7, 0, 7, " + above + ", " + below + ")\nread(7, 0, 7)\nlatch = 7 d:" + (double) above / (double) below + "\n");
    }
    edge("above by below, both as such", all.toString());
    edge("NONE: slot, view", """
        scene
        ! real(-1, 0, 7, 1, 1) = NONE
        ! real(10, 0, 7, 1, 1) = NONE
        ! real(7, 0, 5, 1, 1) = NONE
        ! real(7, 0, 8, 1, 1) = NONE
        ! real(7, 0, -1, 1, 1) = NONE
        ! real(10, 0, 7, 1, 0) = NONE
        ! real(7, 0, 5, 1, 0) = NONE
        ! real(1, 0, 8, 1, 0) = NONE
        ! real(7, 0, MAX, 1, 1) = NONE
        ! real(7, 0, MIN, 1, 1) = NONE
        """);
    edge("BAD: below 0 (the number)", """
        scene
        ! real(7, 0, 7, 1, 0) = BAD
        ! real(7, 0, 6, 0, 0) = BAD
        ! real(7, 0, 7, MIN, 0) = BAD
        ! real(1, 0, 7, 1, 0) = BAD
        ! real(2, 0, 7, 1, 0) = BAD
        ! real(7, 9, 7, 1, 0) = BAD
        ! real(0, 0, 7, 1, 0) = BAD
        real(7, 0, 7, 1, -1) = 1
        """);
    edge("refusals", """
        scene
        ! real(1, 0, 7, 1, 1) = NOTHING
        ! real(2, 0, 7, 1, 1) = KIND
        ! real(4, 9, 7, 1, 1) = KIND
        ! real(5, 0, 6, 1, 1) = KIND
        ! real(7, 3, 7, 1, 1) = PLACE
        ! real(7, -1, 6, 1, 1) = PLACE
        ! real(0, 5, 6, 1, 1) = PLACE
        ! real(0, 0, 6, 1, 1) = KIND
        ! real(9, 0, 7, 1, 1) = KIND
        make(1, 6, 1)
        ! real(1, 0, 7, 1, 1) = KIND
        """);
  }

  private static void box() {
    in("Promise 10, box");
    edge("BOXED a BOX of a KIND (0 .. 10) by v: 1", """
        make(8, 8, 3)
        box(8, 0, 0, LEAST) = 1
        box(8, 1, 10, 9) = 1
        box(8, 2, 8, LEAST) = 1
        row 8 = o 1 w9 -
        box(8, 0, 10, 0) = 1
        box(8, 1, 9, 2147483648) = 1
        row 8 = o w0 l-2147483648 -
        """);
    edge("NONE: slot, kind", """
        scene
        ! box(-1, 0, 4, 1) = NONE
        ! box(10, 0, 4, 1) = NONE
        ! box(4, 0, -1, 1) = NONE
        ! box(4, 0, 11, 1) = NONE
        ! box(10, 0, 10, 10) = NONE
        ! box(1, 0, 11, 1) = NONE
        ! box(4, 4, 11, 1) = NONE
        ! box(4, 0, MAX, 1) = NONE
        ! box(4, 0, MIN, 1) = NONE
        """);
    edge("BAD: v of a WORD", """
        scene
        ! box(4, 0, 10, -1) = BAD
        ! box(4, 0, 10, 10) = BAD
        ! box(4, 0, 10, LEAST) = BAD
        ! box(4, 0, 10, MOST) = BAD
        ! box(4, 0, 10, 4294967296) = BAD
        ! box(1, 0, 10, 10) = BAD
        ! box(2, 0, 10, 10) = BAD
        ! box(4, 9, 10, 10) = BAD
        ! box(0, 0, 10, 10) = BAD
        """);
    edge("refusals", """
        scene
        ! box(1, 0, 10, 1) = NOTHING
        ! box(2, 0, 8, 1) = KIND
        ! box(3, -1, 4, 1) = KIND
        ! box(0, 9, 8, 1) = KIND
        ! box(0, 9, 4, 1) = PLACE
        ! box(0, 9, 10, 1) = PLACE
        ! box(0, 0, 10, 1) = KIND
        ! box(4, 4, 10, 1) = PLACE
        ! box(5, 3, 10, 1) = PLACE
        ! box(5, 2, 10, 1) = KIND
        """);
  }

  // ---- windows

  private static void window() {
    in("Promise 11, window");
    edge("A WINDOW becomes so: 1", """
        window(0, 0, -9, -3, 0, 0) = 1
        windowOf(0, 0) = 0
        windowOf(0, 1) = -9
        windowOf(0, 2) = -3
        windowOf(0, 3) = 0
        windowOf(0, 4) = 0
        window(5, 9, 40, 3, 32, 8) = 1
        windowOf(5, 0) = 9
        windowOf(5, 1) = 40
        windowOf(5, 2) = 3
        windowOf(5, 3) = 32
        windowOf(5, 4) = 8
        window(5, 0, 0, 0, 0, 7) = 1
        windowOf(5, 0) = 0
        windowOf(5, 2) = 0
        windowOf(5, 4) = 7
        windowOf(0, 1) = -9
        count(4) = 0
        """);
    edge("NONE: window, slot", """
        scene
        ! window(-1, 0, 0, 1, 1, 8) = NONE
        ! window(6, 0, 0, 1, 1, 8) = NONE
        ! window(0, -1, 0, 1, 1, 8) = NONE
        ! window(0, 10, 0, 1, 1, 8) = NONE
        ! window(6, 0, 41, 1, 1, 8) = NONE
        ! window(0, 10, 0, 4, 1, 8) = NONE
        ! window(0, 10, 0, 1, 33, 8) = NONE
        ! window(0, 10, 0, 1, 1, 9) = NONE
        ! window(MAX, 0, 0, 1, 1, 8) = NONE
        ! window(0, MIN, 0, 1, 1, 8) = NONE
        """);
    edge("BAD: from, step, many, view (0 .. 8)", """
        scene
        ! window(0, 1, -10, 1, 1, 8) = BAD
        ! window(0, 1, 41, 1, 1, 8) = BAD
        ! window(0, 1, MIN, 1, 1, 8) = BAD
        ! window(0, 1, MAX, 1, 1, 8) = BAD
        ! window(0, 1, 1, -4, 1, 8) = BAD
        ! window(0, 1, 1, 4, 1, 8) = BAD
        ! window(0, 1, 1, MIN, 1, 8) = BAD
        ! window(0, 1, 1, MAX, 1, 8) = BAD
        ! window(0, 1, 1, 2, -1, 8) = BAD
        ! window(0, 1, 1, 2, 33, 8) = BAD
        ! window(0, 1, 1, 2, MIN, 8) = BAD
        ! window(0, 1, 1, 2, MAX, 8) = BAD
        ! window(0, 1, 1, 2, 3, -1) = BAD
        ! window(0, 1, 1, 2, 3, 9) = BAD
        ! window(0, 1, 1, 2, 3, MIN) = BAD
        ! window(0, 1, 1, 2, 3, MAX) = BAD
        """);
  }

  private static void windowOf() {
    in("Promise 12, windowOf");
    edge("Of a WINDOW: what 0 SLOT, 1 FROM, 2 STEP, 3 MANY, 4 VIEW", """
        scene
        ! windowOf(0, 0) = 0
        ! windowOf(3, 0) = 9
        ! windowOf(3, 1) = 30
        ! windowOf(1, 2) = -1
        ! windowOf(5, 3) = 3
        ! windowOf(5, 4) = 8
        """);
    edge("NONE", """
        scene
        ! windowOf(-1, 0) = NONE
        ! windowOf(6, 0) = NONE
        ! windowOf(0, -1) = NONE
        ! windowOf(0, 5) = NONE
        ! windowOf(MIN, 4) = NONE
        ! windowOf(MAX, 0) = NONE
        ! windowOf(5, MIN) = NONE
        ! windowOf(5, MAX) = NONE
        """);
  }

  private static void look() {
    in("Promise 13, look");
    edge("CELL j of a WINDOW is READ: 1; THE LATCH has it", """
        scene
        look(1, 3) = 1
        latch = 10 3 NO
        look(1, 0) = 1
        latch = 8 0 NO
        look(0, 1) = 1
        latch = 4 22 22
        look(3, 1) = 1
        latch = 5 0 0
        """);
    edge("NONE", """
        scene
        ! look(-1, 0) = NONE
        ! look(6, 0) = NONE
        ! look(6, -1) = NONE
        ! look(MIN, 0) = NONE
        ! look(MAX, 0) = NONE
        """);
    edge("refusals", """
        scene
        ! look(0, 5) = PLACE
        ! look(0, -1) = PLACE
        ! look(3, 2) = PLACE
        ! look(3, 4) = PLACE
        ! look(4, 0) = NOTHING
        ! look(4, 3) = PLACE
        ! look(5, 0) = KIND
        ! look(5, -1) = PLACE
        ! look(0, MAX) = PLACE
        ! look(0, MIN) = PLACE
        window(0, 0, -1, 1, 2, 2)
        ! look(0, 0) = PLACE
        ! look(0, 1) = KIND
        window(0, 5, 9, 1, 2, 4)
        ! look(0, 0) = KIND
        latch = 5 22 22
        """);
  }

  private static void sum() {
    in("Promise 14, sum");
    edge("SUM", """
        make(0, 7, 3)
        make(1, 8, 3)
        ! sum(0) = 0
        ! sum(5) = 0
        window(0, 0, 0, 1, 3, 8)
        real(0, 0, 7, 3, 2)
        real(0, 1, 7, 3, 2)
        real(0, 2, 7, -1, 2)
        ! sum(0) = 2
        write(0, 0, 7, MOST)
        write(0, 1, 7, MOST)
        ! sum(0) = -2
        box(1, 0, 0, 1)
        box(1, 1, 2, 65535)
        box(1, 2, 5, LEAST)
        window(1, 1, 0, 1, 3, 8)
        ! sum(1) = -9223372036854710272
        """);
    edge("NO: window; there is a FAULT", """
        scene
        ! sum(-1) = NO
        ! sum(6) = NO
        ! sum(MIN) = NO
        ! sum(MAX) = NO
        ! sum(1) = NO
        ! sum(3) = NO
        ! sum(4) = NO
        ! sum(5) = NO
        window(3, 9, 30, 1, 2, 5)
        ! sum(3) = 0
        window(4, 1, 0, 1, 0, 8)
        ! sum(4) = 0
        window(0, 0, 0, 1, 5, 3)
        ! sum(0) = NO
        """);
  }

  private static void fault() {
    in("Promise 15, fault");
    edge("FAULT: which CELL (what 0; -5: there is none), why (1; -5)", """
        scene
        ! fault(0, 0) = ABSENT
        ! fault(0, 1) = ABSENT
        ! fault(1, 0) = 0
        ! fault(1, 1) = KIND
        ! fault(3, 0) = 2
        ! fault(3, 1) = PLACE
        ! fault(4, 0) = 0
        ! fault(4, 1) = NOTHING
        ! fault(5, 0) = 0
        ! fault(5, 1) = KIND
        window(4, 1, 0, 1, 0, 8)
        ! fault(4, 0) = ABSENT
        ! fault(4, 1) = ABSENT
        window(4, 9, 0, 1, 32, 8)
        ! fault(4, 0) = ABSENT
        window(4, 9, 1, 1, 32, 8)
        ! fault(4, 0) = 31
        ! fault(4, 1) = PLACE
        """);
    edge("NONE", """
        scene
        ! fault(-1, 0) = NONE
        ! fault(6, 0) = NONE
        ! fault(0, -1) = NONE
        ! fault(0, 2) = NONE
        ! fault(3, 2) = NONE
        ! fault(3, MIN) = NONE
        ! fault(MAX, 1) = NONE
        """);
  }

  private static void least() {
    in("Promise 16, least");
    edge("The i-th LEAST: its j", """
        make(0, 5, 32)
        window(0, 0, 31, -1, 32, 5)
        ! least(0, 0) = 0
        ! least(0, 31) = 31
        ! least(0, 32) = ABSENT
        write(0, 31, 5, MOST)
        write(0, 0, 5, LEAST)
        ! least(0, 0) = 31
        ! least(0, 1) = 1
        ! least(0, 31) = 0
        """);
    edge("NONE: window, i below 0", """
        scene
        ! least(-1, 0) = NONE
        ! least(6, 0) = NONE
        ! least(0, -1) = NONE
        ! least(0, MIN) = NONE
        ! least(1, -1) = NONE
        ! least(3, -1) = NONE
        ! least(MAX, 0) = NONE
        """);
    edge("BAD: VIEW 8", """
        scene
        ! least(1, 0) = BAD
        ! least(4, 0) = BAD
        ! least(5, 99) = BAD
        window(0, 0, 0, 1, 5, 8)
        ! least(0, 0) = BAD
        window(0, 0, 0, 1, 0, 8)
        ! least(0, 0) = BAD
        """);
    edge("its FAULT's refusal; -5: there are not as many", """
        scene
        ! least(3, 0) = PLACE
        ! least(3, 99) = PLACE
        window(4, 1, 0, 1, 3, 4)
        ! least(4, 0) = NOTHING
        window(4, 2, 0, 1, 3, 4)
        ! least(4, 3) = KIND
        window(4, 4, 0, 1, 3, 4)
        ! least(4, 0) = KIND
        window(4, 0, 4, 1, 2, 3)
        ! least(4, 0) = KIND
        window(4, 0, -1, 1, 2, 3)
        ! least(4, 0) = PLACE
        ! least(0, 4) = 1
        ! least(0, 5) = ABSENT
        ! least(0, MAX) = ABSENT
        window(4, 1, 0, 1, 0, 4)
        ! least(4, 0) = ABSENT
        """);
  }

  private static void find() {
    in("Promise 17, find");
    edge("The first CELL of a WINDOW, from j on, that isn't refused and is ALIKE to a BOX of a KIND by v; -5", """
        scene
        ! find(0, 0, 4, 0) = 2
        ! find(0, 3, 4, 0) = 3
        ! find(0, 4, 4, 0) = 4
        ! find(0, 5, 4, 0) = ABSENT
        ! find(0, MAX, 4, 0) = ABSENT
        ! find(0, 0, 4, 77) = ABSENT
        ! find(0, 0, 0, 0) = ABSENT
        ! find(3, 0, 5, 0) = 0
        ! find(3, 1, 5, 0) = 1
        ! find(3, 2, 5, 0) = ABSENT
        ! find(4, 0, 8, 0) = ABSENT
        ! find(5, 0, 9, -7) = ABSENT
        ! find(1, 0, 10, 3) = 3
        ! find(1, 0, 10, 0) = ABSENT
        ! find(1, 0, 10, 9) = ABSENT
        window(0, 0, -9, 3, 5, 4)
        ! find(0, 0, 4, 11) = 3
        window(0, 0, 0, 1, 5, 3)
        ! find(0, 0, 4, 22) = ABSENT
        window(0, 0, 0, 1, 0, 4)
        ! find(0, 0, 4, 11) = ABSENT
        window(0, 9, 0, 1, 32, 5)
        write(9, 31, 5, 7)
        ! find(0, 0, 5, 7) = 31
        ! find(0, 31, 7, 7) = 31
        """);
    edge("NONE: window, j below 0, kind", """
        scene
        ! find(-1, 0, 4, 0) = NONE
        ! find(6, 0, 4, 0) = NONE
        ! find(0, -1, 4, 0) = NONE
        ! find(0, MIN, 4, 0) = NONE
        ! find(0, 0, -1, 0) = NONE
        ! find(0, 0, 11, 0) = NONE
        ! find(6, 0, 10, 10) = NONE
        ! find(0, -1, 10, 10) = NONE
        ! find(0, 0, MAX, 10) = NONE
        """);
    edge("BAD: v of a WORD", """
        scene
        ! find(1, 0, 10, -1) = BAD
        ! find(1, 0, 10, 10) = BAD
        ! find(4, 0, 10, LEAST) = BAD
        ! find(0, 99, 10, MOST) = BAD
        ! find(1, 0, 10, 4294967299) = BAD
        """);
  }

  // ---- moves

  private static void copy() {
    in("Promise 18, copy");
    edge("COPIED from a WINDOW to another one (or the same): how many CELLS", """
        make(0, 4, 32)
        make(1, 8, 32)
        write(0, 31, 4, 9)
        window(0, 0, 0, 1, 32, 8)
        window(1, 1, 31, -1, 32, 8)
        copy(0, 1, 0) = 32
        undo() = 32
        copy(0, 1, 1) = 32
        read(1, 0, 8)
        latch = 4 9 9
        copy(0, 0, 0) = 32
        copy(0, 0, 1) = 32
        count(4) = 4
        window(0, 0, 31, 1, 1, 8)
        copy(0, 1, 0) = 1
        read(1, 31, 8)
        latch = 4 9 9
        window(0, 0, 31, 1, 0, 8)
        ! copy(0, 1, 0) = 0
        ! copy(0, 1, 1) = 0
        window(0, 5, 31, 1, 0, 8)
        ! copy(0, 5, 0) = 0
        """);
    edge("NONE: windows, how (0, 1)", """
        scene
        ! copy(-1, 0, 0) = NONE
        ! copy(6, 0, 0) = NONE
        ! copy(0, -1, 0) = NONE
        ! copy(0, 6, 1) = NONE
        ! copy(0, 2, -1) = NONE
        ! copy(0, 2, 2) = NONE
        ! copy(0, 2, MIN) = NONE
        ! copy(4, 2, MAX) = NONE
        ! copy(MAX, 2, 0) = NONE
        ! copy(0, MIN, 0) = NONE
        """);
    edge("-100 less j", """
        scene
        ! copy(0, 2, 0) = -103 at 3 1 PLACE
        ! copy(0, 2, 1) = -103 at 3 1 PLACE
        ! copy(0, 1, 0) = -100 at 0 1 KIND
        ! copy(1, 2, 0) = -100 at 0 1 KIND
        ! copy(3, 2, 0) = -102 at 2 0 PLACE
        ! copy(3, 2, 1) = -102 at 2 0 PLACE
        ! copy(4, 2, 0) = -100 at 0 0 NOTHING
        ! copy(5, 2, 1) = -100 at 0 0 KIND
        ! copy(0, 4, 0) = -100 at 0 1 NOTHING
        ! copy(0, 5, 1) = -100 at 0 1 KIND
        ! copy(2, 3, 0) = -102 at 2 1 PLACE
        ! copy(2, 0, 1) = -100 at 0 1 KIND
        window(4, 1, 0, 1, 0, 8)
        ! copy(0, 4, 0) = -100 at 0 1 PLACE
        """);
  }

  private static void swap() {
    in("Promise 19, swap");
    edge("SWAPPED: how many CELLS the first has", """
        make(0, 4, 32)
        make(1, 4, 32)
        write(0, 0, 4, 1)
        write(0, 31, 4, 2)
        window(0, 0, 0, 1, 32, 0)
        window(1, 1, 31, -1, 32, 0)
        swap(0, 1) = 32
        act(2, 0) = 64
        act(2, 73) = 31
        ! act(2, 74) = NONE
        read(1, 31, 4)
        latch = 4 1 1
        read(1, 0, 4)
        latch = 4 2 2
        undo() = 64
        read(0, 31, 4)
        latch = 4 2 2
        redo() = 64
        window(0, 0, 0, 1, 1, 8)
        swap(0, 1) = 1
        swap(1, 1) = 32
        window(0, 5, 0, 1, 0, 8)
        ! swap(0, 1) = 0
        ! swap(0, 0) = 0
        """);
    edge("NONE", """
        scene
        ! swap(-1, 0) = NONE
        ! swap(6, 0) = NONE
        ! swap(0, -1) = NONE
        ! swap(0, 6) = NONE
        ! swap(MIN, 0) = NONE
        ! swap(0, MAX) = NONE
        """);
    edge("-100 less j", """
        scene
        ! swap(0, 2) = -100 at 0 3 KIND
        ! swap(2, 0) = -100 at 0 2 KIND
        ! swap(4, 0) = -100 at 0 0 NOTHING
        ! swap(0, 4) = -100 at 0 1 NOTHING
        ! swap(5, 4) = -100 at 0 0 KIND
        ! swap(3, 2) = -102 at 2 0 PLACE
        ! swap(2, 3) = -102 at 2 1 PLACE
        window(4, 9, 5, 1, 2, 8)
        ! swap(2, 4) = -102 at 2 1 PLACE
        swap(4, 2) = 2
        """);
  }

  private static void fill() {
    in("Promise 20, fill");
    edge("FILLED with a BOX of a KIND by v: how many CELLS", """
        make(0, 8, 32)
        window(0, 0, 0, 1, 32, 0)
        fill(0, 10, 9) = 32
        act(0, 0) = 32
        act(0, 41) = 31
        ! act(0, 42) = NONE
        undo() = 32
        window(0, 0, 31, 0, 1, 0)
        fill(0, 10, 0) = 1
        window(0, 0, 0, 1, 0, 0)
        ! fill(0, 10, 0) = 0
        window(0, 5, 0, 1, 0, 0)
        ! fill(0, 8, 0) = 0
        """);
    edge("NONE: window, kind", """
        scene
        ! fill(-1, 4, 0) = NONE
        ! fill(6, 4, 0) = NONE
        ! fill(0, -1, 0) = NONE
        ! fill(0, 11, 0) = NONE
        ! fill(6, 10, 10) = NONE
        ! fill(MAX, 4, 0) = NONE
        ! fill(0, MIN, 0) = NONE
        ! fill(4, 11, 0) = NONE
        """);
    edge("BAD: v of a WORD", """
        scene
        ! fill(1, 10, -1) = BAD
        ! fill(1, 10, 10) = BAD
        ! fill(4, 10, LEAST) = BAD
        ! fill(5, 10, MOST) = BAD
        ! fill(0, 10, 4294967296) = BAD
        window(0, 0, 0, 1, 0, 8)
        ! fill(0, 10, 10) = BAD
        """);
    edge("-100 less j", """
        scene
        ! fill(0, 5, 1) = -100 at 0 1 KIND
        ! fill(0, 8, 1) = -100 at 0 1 KIND
        ! fill(0, 10, 1) = -100 at 0 1 KIND
        ! fill(3, 5, 1) = -102 at 2 1 PLACE
        ! fill(3, 8, 1) = -100 at 0 1 KIND
        ! fill(4, 8, 1) = -100 at 0 1 NOTHING
        ! fill(5, 9, 1) = -100 at 0 1 KIND
        window(4, 4, 1, -1, 3, 8)
        ! fill(4, 8, 1) = -102 at 2 1 PLACE
        """);
  }

  private static void stop() {
    in("Promise 21, stop");
    edge("THE STOP: what 0 j, 1 the side, 2 the refusal", """
        scene
        ! stop(0) = 2
        ! stop(1) = 1
        ! stop(2) = PLACE
        fill(0, 4, 1) = 5
        stop = 2 1 PLACE
        ! write(1, 0, 4, 1) = NOTHING
        ! fill(0, 11, 1) = NONE
        ! fill(0, 10, 11) = BAD
        ! text 0.0< = -1004
        stop = 2 1 PLACE
        undo()
        back()
        stop = 2 1 PLACE
        fill(4, 4, 1) = 0
        fill(5, 4, 1) = 0
        swap(0, 5) = -100
        stop = 0 1 PLACE
        """);
    edge("NONE", """
        ! stop(-1) = NONE
        ! stop(3) = NONE
        ! stop(MIN) = NONE
        ! stop(MAX) = NONE
        scene
        ! stop(-1) = NONE
        ! stop(3) = NONE
        """);
    edge("STATE: no MOVE was refused yet", """
        ! stop(0) = STATE
        ! stop(1) = STATE
        ! stop(2) = STATE
        make(0, 4, 1)
        ! write(0, 1, 4, 1) = PLACE
        ! look(0, 0) = PLACE
        ! copy(0, 0, 2) = NONE
        ! text 0 = -1001
        ! copy(0, 0, 0) = 0
        window(0, 0, 0, 1, 1, 8)
        fill(0, 4, 1)
        ! stop(0) = STATE
        ! text 0.1<41 = -100 at 0 1 PLACE
        stop(0) = 0
        """);
  }

  // ---- the journal

  private static void undo() {
    in("Promise 22, undo");
    edge("The latest ACT is UNDONE: how many CELLS it has", """
        make(0, 4, 2)
        write(0, 0, 4, 1)
        window(0, 0, 0, 0, 32, 8)
        fill(0, 4, 2)
        swap(0, 0) = 32
        undo() = 64
        row 0 = i 2 0
        undo() = 32
        row 0 = i 1 0
        undo() = 1
        row 0 = i 0 0
        ! undo() = STATE
        count(4) = 0
        count(5) = 3
        """);
    edge("STATE: there is none", """
        ! undo() = STATE
        make(0, 4, 1)
        ! undo() = STATE
        ! fill(0, 4, 1) = 0
        ! write(0, 1, 4, 1) = PLACE
        ! undo() = STATE
        write(0, 0, 4, 1)
        undo() = 1
        ! undo() = STATE
        redo() = 1
        undo() = 1
        write(0, 0, 4, 1)
        make(0, 4, 1)
        ! undo() = STATE
        25 * write(0, 0, 4, 1)
        24 * undo() = 1
        ! undo() = STATE
        """);
  }

  private static void redo() {
    in("Promise 23, redo");
    edge("The ACT UNDONE last is DONE AGAIN: how many CELLS", """
        make(0, 4, 2)
        write(0, 0, 4, 1)
        window(0, 0, 0, 0, 32, 8)
        fill(0, 4, 2)
        swap(0, 0) = 32
        3 * undo()
        redo() = 1
        row 0 = i 1 0
        redo() = 32
        row 0 = i 2 0
        redo() = 64
        ! redo() = STATE
        count(4) = 3
        count(5) = 0
        """);
    edge("STATE", """
        ! redo() = STATE
        make(0, 4, 2)
        make(1, 4, 2)
        write(0, 0, 4, 1)
        ! redo() = STATE
        undo()
        ! write(0, 2, 4, 1) = PLACE
        redo()
        undo()
        write(0, 1, 4, 1)
        ! redo() = STATE
        write(1, 0, 4, 1)
        undo()
        make(1, 4, 2)
        ! redo() = STATE
        undo() = 1
        redo() = 1
        """);
  }

  private static void act() {
    in("Promise 24, act");
    edge("Of the i-th ACT that is kept and not UNDONE (0 the oldest): what 0 how many CELLS, 10 and k the place of its CELL k", """
        scene
        ! act(0, 0) = 1
        ! act(0, 10) = 0
        ! act(1, 10) = 1
        ! act(6, 0) = 3
        ! act(6, 10) = 0
        ! act(6, 12) = 2
        undo()
        ! act(6, 0) = NONE
        redo()
        redo()
        ! act(7, 10) = 2
        make(4, 8, 1)
        ! act(2, 10) = 2
        ! act(3, 10) = 1
        ! act(4, 0) = 3
        ! act(5, 10) = 2
        """);
    edge("NONE", """
        ! act(0, 0) = NONE
        scene
        ! act(-1, 0) = NONE
        ! act(7, 0) = NONE
        ! act(8, 10) = NONE
        ! act(24, 0) = NONE
        ! act(MIN, 0) = NONE
        ! act(MAX, 0) = NONE
        ! act(6, -1) = NONE
        ! act(6, 1) = NONE
        ! act(6, 9) = NONE
        ! act(6, 13) = NONE
        ! act(0, 11) = NONE
        ! act(6, MIN) = NONE
        ! act(6, MAX) = NONE
        """);
  }

  // ---- in thought

  private static void views() {
    in("Promise 25, views");
    int[] seen = {257, 506, 500, 504, 496, 480, 448, 384, 256, 256};
    StringBuilder all = new StringBuilder();
    for (int n : new int[] {0, 32}) {
      for (int k = 0; k <= 9; k++) all.append("make(" + k + ", " + k + ", " + n + ")\nviews(" + k + ") = " + seen[k] + "\n");
    }
    edge("VIEWS (bits 0 .. 8)", all.toString());
    edge("NONE; NOTHING; KIND: a THING", """
        scene
        ! views(-1) = NONE
        ! views(10) = NONE
        ! views(MIN) = NONE
        ! views(MAX) = NONE
        ! views(1) = NOTHING
        ! views(2) = KIND
        ! views(3) = KIND
        ! views(8) = 257
        """);
  }

  private static void takes() {
    in("Promise 26, takes");
    String[] taken = {"0", "1", "2", "13", "1234", "12345", "123456", "1234567", "0123456789:", "89"};
    for (int n : new int[] {0, 1}) {
      StringBuilder all = new StringBuilder();
      for (int k = 0; k <= 9; k++) {
        all.append("make(" + k + ", " + k + ", " + n + ")\n");
        for (int of = 0; of <= 10; of++) all.append("takes(" + k + ", " + of + ") = " + (taken[k].indexOf('0' + of) >= 0 ? 1 : 0) + "\n");
      }
      edge("TAKES: 1, 0 (of " + n + " CELLS)", all.toString());
    }
    edge("NONE: slot, kind (0 .. 10); NOTHING; KIND: a THING", """
        scene
        ! takes(-1, 0) = NONE
        ! takes(10, 0) = NONE
        ! takes(0, -1) = NONE
        ! takes(0, 11) = NONE
        ! takes(1, 11) = NONE
        ! takes(2, -1) = NONE
        ! takes(MAX, 0) = NONE
        ! takes(0, MIN) = NONE
        ! takes(1, 10) = NOTHING
        ! takes(1, 8) = NOTHING
        ! takes(2, 9) = KIND
        ! takes(3, 10) = KIND
        ! takes(8, 8) = 0
        """);
  }

  private static void exact() {
    in("Promise 27, exact");
    edge("EXACT (VIEWS 0 .. 7)", """
        scene
        ! exact(0, 4) = 5
        ! exact(8, 0) = 0
        ! exact(9, 7) = 32
        ! exact(7, 7) = 3
        write(0, 0, 4, MAX)
        write(0, 1, 4, MIN)
        write(0, 2, 4, 16777217)
        ! exact(0, 6) = 3
        ! exact(0, 7) = 5
        write(9, 31, 5, 9007199254740993)
        ! exact(9, 7) = 31
        write(9, 30, 5, MOST)
        write(9, 29, 5, LEAST)
        ! exact(9, 7) = 31
        ! exact(9, 6) = 31
        """);
    edge("NONE: slot, view; NOTHING; KIND: a THING, it may not be READ so", """
        scene
        ! exact(-1, 0) = NONE
        ! exact(10, 0) = NONE
        ! exact(0, -1) = NONE
        ! exact(0, 8) = NONE
        ! exact(1, 8) = NONE
        ! exact(2, -1) = NONE
        ! exact(4, 8) = NONE
        ! exact(MIN, 0) = NONE
        ! exact(0, MAX) = NONE
        ! exact(1, 0) = NOTHING
        ! exact(2, 0) = KIND
        ! exact(3, 7) = KIND
        ! exact(4, 4) = KIND
        ! exact(5, 4) = KIND
        ! exact(0, 3) = KIND
        ! exact(8, 7) = KIND
        ! exact(7, 6) = KIND
        """);
  }

  private static void alike() {
    in("Promise 28, alike");
    edge("ALIKE: the first CELL; -5: all are, and as many", """
        scene
        ! alike(0, 0) = ABSENT
        ! alike(0, 6) = ABSENT
        ! alike(0, 4) = 0
        ! alike(8, 0) = 0
        ! alike(8, 8) = ABSENT
        make(1, 9, 0)
        ! alike(8, 1) = ABSENT
        make(1, 6, 5)
        ! alike(0, 1) = 0
        write(1, 0, 6, 11)
        ! alike(0, 1) = 1
        write(1, 1, 6, 22)
        ! alike(0, 1) = ABSENT
        write(1, 4, 6, 1)
        ! alike(0, 1) = 4
        make(1, 4, 4)
        write(1, 0, 4, 11)
        write(1, 1, 4, 22)
        ! alike(0, 1) = 4
        ! alike(1, 0) = 4
        """);
    edge("NONE; NOTHING: either; KIND: either is a THING", """
        scene
        ! alike(-1, 0) = NONE
        ! alike(0, -1) = NONE
        ! alike(10, 1) = NONE
        ! alike(1, 10) = NONE
        ! alike(2, 10) = NONE
        ! alike(MIN, 0) = NONE
        ! alike(0, MAX) = NONE
        ! alike(1, 0) = NOTHING
        ! alike(0, 1) = NOTHING
        ! alike(1, 1) = NOTHING
        ! alike(1, 2) = NOTHING
        ! alike(2, 1) = NOTHING
        ! alike(2, 0) = KIND
        ! alike(0, 3) = KIND
        ! alike(2, 2) = KIND
        ! alike(2, 3) = KIND
        """);
  }

  private static void digest() {
    in("Promise 29, digest");
    long none = 1;
    for (int s = 0; s < 10; s++) none = 31 * none + 218;
    long ninth = 31L * 31 * 31 * 31 * 31 * 31 * 31 * 31 * 31;
    edge("DIGEST of a SLOT; of all (slot -1)", String.format("""
        ! digest(-1) = %d
        thing(9, 0, 1)
        ! digest(9) = 6790
        ! digest(-1) = %d
        thing(9, -1, 1)
        thing(0, 1, 1)
        ! digest(0) = 6790
        ! digest(-1) = %d
        make(0, 8, 2)
        box(0, 0, 10, 9)
        ! digest(0) = %d
        make(0, 2, 1)
        write(0, 0, 2, 65535)
        ! digest(0) = %d
        """, none, none + 6790 - 218, none + (6790 - 218) * ninth, ((((228L * 31 + 2) * 31 + 10) * 31 + 9) * 31 + 8) * 31,
        ((222L * 31 + 1) * 31 + 2) * 31 + 65535));
    edge("NO: any other", """
        scene
        ! digest(-2) = NO
        ! digest(10) = NO
        ! digest(MIN) = NO
        ! digest(MAX) = NO
        """);
  }

  private static void spell() {
    in("Promise 30, spell");
    StringBuilder longest = new StringBuilder("row 0 = j");
    for (int i = 0; i < 15; i++) longest.append(" -9223372036854775808");
    edge("THE PAPER becomes a ROW SPELLED: how many bytes", """
        make(0, 5, 32)
        window(0, 0, 0, 1, 32, 8)
        spell(0) = 65
        fill(0, 5, LEAST)
        spell(0) = 673
        paper(672) = 56
        ! paper(673) = NONE
        make(0, 5, 15)
        window(0, 0, 0, 1, 15, 8)
        fill(0, 5, LEAST)
        """ + longest + """

        make(0, 0, 0)
        spell(0) = 1
        paper(0) = 122
        ! paper(1) = NONE
        count(7) = 1
        make(0, 5, 6)
        write(0, 0, 5, 9)
        write(0, 1, 5, 10)
        write(0, 2, 5, -9)
        write(0, 3, 5, -10)
        write(0, 4, 5, MOST)
        row 0 = j 9 10 -9 -10 9223372036854775807 0
        """);
    String[] first = {"z 0", "b 0", "c 0", "s 0", "i 0", "j 0", "f 0", "d 0", "o -", "l -"};
    StringBuilder all = new StringBuilder();
    for (int k = 0; k <= 9; k++) all.append("make(" + k + ", " + k + ", 1)\nrow " + k + " = " + first[k] + "\n");
    edge("its letter (z b c s i j f d o l by KINDS)", all.toString());
    edge("NONE; NOTHING; KIND: a THING", """
        scene
        ! spell(-1) = NONE
        ! spell(10) = NONE
        ! spell(MIN) = NONE
        ! spell(MAX) = NONE
        ! spell(1) = NOTHING
        ! spell(2) = KIND
        ! spell(3) = KIND
        count(7) = 10
        """);
  }

  private static void paper() {
    in("Promise 31, paper");
    edge("Byte i of THE PAPER", """
        scene
        ! paper(0) = 111
        ! paper(1) = 32
        ! paper(2) = 119
        ! paper(9) = 45
        write(0, 0, 4, 1)
        box(4, 0, 10, 9)
        paper(3) = 51
        """);
    edge("NONE", """
        ! paper(0) = NONE
        scene
        ! paper(-1) = NONE
        ! paper(10) = NONE
        ! paper(MIN) = NONE
        ! paper(MAX) = NONE
        make(1, 5, 32)
        spell(1) = 65
        paper(64) = 48
        ! paper(65) = NONE
        spell(8) = 1
        ! paper(1) = NONE
        ! paper(64) = NONE
        """);
  }

  // ---- texts, the image

  private static void feed() {
    in("Promise 32, feed");
    edge("A byte (1 .. 127) comes behind THE TAPE's: how many it has", """
        make(0, 4, 1)
        feed(1) = 1
        feed(127) = 2
        run() = -1000
        feed(48) = 1
        feed(46) = 2
        feed(48) = 3
        feed(60) = 4
        feed(52) = 5
        feed(55) = 6
        count(6) = 6
        run() = 1
        row 0 = i 7
        """);
    edge("BAD; FULL", """
        scene
        ! feed(0) = BAD
        ! feed(128) = BAD
        ! feed(-1) = BAD
        ! feed(MIN) = BAD
        ! feed(MAX) = BAD
        119 * feed(48)
        feed(59) = 120
        ! feed(48) = FULL
        ! feed(127) = FULL
        ! feed(0) = BAD
        ! feed(128) = BAD
        count(6) = 120
        """);
  }

  private static void run() {
    in("Promise 33, run");
    edge("THE TAPE, which is empty then, is RUN: how many LINES", """
        make(8, 8, 2)
        text 8.0<8 = 1
        count(6) = 0
        ! run() = -1000
        text 8.0<8;8.0<8;8.0<8;8.0<8;8.0<8;8.0<8;8.0<8;8.0<8;8.0<8;8.0<8;8.0<8;8.0<8;8.0<8;8.0<8;8.0<8;8.0<8;8.0<8;8.0<8;8.0<8;8.1<8 = 20
        count(6) = 0
        act(1, 0) = 20
        act(1, 29) = 1
        undo() = 20
        """);
    edge("-1000 less the FAULT", """
        scene
        ! text  = -1000
        ! text x = -1000
        ! text 0.0<41;0.1<42;0 = -1015
        ! text 0.0<41;0.1<42;0x = -1015
        count(6) = 0
        ! run() = -1000
        """);
    edge("-100 less the LINE that is refused", """
        scene
        ! text 1.0<8 = -100 at 0 1 NOTHING
        ! text 0.0=1.0:4 = -100 at 0 0 NOTHING
        ! text 0.0<41;0.1<42;2.0<8 = -102 at 2 1 KIND
        ! text 0.0<41;0.1<42;0.5<41;0.6<41 = -102 at 2 1 PLACE
        ! text 0.0<41;0.1=7.0:7 = -101 at 1 1 KIND
        ! text 0.0<41;0.1=7.3:7 = -101 at 1 0 PLACE
        count(6) = 0
        ! run() = -1000
        """);
    edge("-100 less the LINE that is refused (the last of as many as there can be)", """
        make(8, 8, 1)
        text 8.0<8;8.0<8;8.0<8;8.0<8;8.0<8;8.0<8;8.0<8;8.0<8;8.0<8;8.0<8;8.0<8;8.0<8;8.0<8;8.0<8;8.0<8;8.0<8;8.0<8;8.0<8;8.0<8;8.1<8 = -119 at 19 1 PLACE
        count(4) = 0
        of(8, 3) = 0
        """);
  }

  private static void image() {
    in("Promise 34, image");
    edge("THE IMAGE is taken: how many unlike ROWS there are", """
        image() = 0
        thing(9, 0, 1)
        image() = 0
        make(0, 4, 2)
        image() = 1
        same(1, 0)
        image() = 1
        make(2, 4, 2)
        image() = 2
        make(3, 4, 0)
        same(4, 3)
        image() = 3
        write(0, 0, 4, 1)
        window(0, 0, 0, 1, 2, 8)
        image() = 3
        count(4) = 1
        of(0, 3) = 1
        write(0, 0, 4, 2)
        undo()
        undo()
        row 0 = i 0 0
        back() = 3
        row 1 = i 1 0
        windowOf(0, 3) = 2
        """);
    edge("THE IMAGE is taken (another one is no more)", """
        make(0, 4, 1)
        image() = 1
        make(0, 5, 2)
        make(1, 5, 2)
        image() = 2
        thing(0, -1, 0)
        thing(1, -1, 0)
        back() = 2
        row 0 = j 0 0
        row 1 = j 0 0
        """);
  }

  private static void back() {
    in("Promise 35, back");
    edge("All is as THE IMAGE: how many unlike ROWS", """
        make(0, 4, 2)
        same(5, 0)
        make(1, 4, 2)
        image() = 2
        write(0, 0, 4, 1)
        make(1, 9, 1)
        make(2, 9, 1)
        thing(5, 0, 0)
        back() = 2
        of(0, 2) = 2
        of(2, 0) = -1
        row 0 = i 0 0
        row 1 = i 0 0
        write(5, 1, 4, 9)
        row 0 = i 0 9
        back() = 2
        row 0 = i 0 0
        same(0, 1)
        same(5, 1)
        back() = 2
        of(1, 2) = 1
        of(5, 2) = 2
        """);
    edge("All is as THE IMAGE (of an empty bank)", """
        image() = 0
        make(0, 4, 2)
        thing(1, 0, 2)
        write(0, 0, 4, 1)
        window(3, 9, 1, 1, 1, 1)
        back() = 0
        of(0, 0) = -1
        of(1, 0) = -1
        windowOf(3, 0) = 0
        windowOf(3, 4) = 8
        ! undo() = STATE
        ! redo() = STATE
        """);
    edge("All is as THE IMAGE (THE LATCH, THE STOP, THE TAPE, THE PAPER, what is counted are not of it)", """
        scene
        feed(48)
        back()
        latch = 5 22 22
        stop = 2 1 PLACE
        count(6) = 1
        count(7) = 10
        count(11) = 1
        count(12) = 2
        count(13) = 3
        """);
    edge("STATE: there is none", """
        ! back() = STATE
        make(0, 4, 1)
        write(0, 0, 4, 1)
        undo()
        ! back() = STATE
        image() = 1
        back() = 1
        """);
  }

  private static void count() {
    in("Promise 36, count");
    edge("0 SLOTS that hold ROWS, 1 THINGS, 2 unlike ROWS, 3 CELLS of these", """
        make(0, 4, 32)
        same(1, 0)
        make(2, 4, 32)
        make(3, 9, 0)
        thing(4, 0, 1)
        same(5, 4)
        thing(6, 1, 0)
        ! count(0) = 4
        ! count(1) = 3
        ! count(2) = 3
        ! count(3) = 64
        make(0, 4, 1)
        ! count(2) = 4
        ! count(3) = 65
        thing(1, -1, 0)
        ! count(0) = 3
        ! count(2) = 3
        ! count(3) = 33
        thing(0, 0, 1)
        thing(9, 0, 1)
        ! count(0) = 2
        ! count(1) = 5
        make(9, 4, 32)
        ! count(0) = 3
        ! count(1) = 4
        ! count(3) = 64
        """);
    edge("4 ACTS, 5 UNDONE ones, 6 bytes of THE TAPE, 7 of THE PAPER, 8 TOUCHED CELLS of unlike ROWS", """
        scene
        ! count(4) = 7
        ! count(5) = 2
        ! count(6) = 0
        ! count(7) = 10
        ! count(8) = 11
        undo()
        ! count(4) = 6
        ! count(5) = 3
        ! count(8) = 11
        write(0, 4, 4, 1)
        ! count(4) = 7
        ! count(5) = 0
        ! count(8) = 12
        write(6, 4, 4, 1)
        ! count(8) = 12
        feed(48)
        ! count(6) = 1
        make(0, 4, 1)
        ! count(8) = 12
        make(6, 4, 1)
        ! count(8) = 7
        """);
    edge("11 to 13: how often read(), write(), real(), box(), look() were refused by NOTHING, KIND, PLACE", """
        scene
        count(11) = 1
        count(12) = 2
        count(13) = 3
        read(1, 0, 0) = NOTHING
        write(1, 0, 0, 0) = NOTHING
        real(1, 0, 6, 1, 1) = NOTHING
        box(1, 0, 0, 0) = NOTHING
        look(4, 0) = NOTHING
        count(11) = 6
        count(12) = 2
        count(13) = 3
        read(2, 0, 0) = KIND
        write(2, 0, 0, 0) = KIND
        real(2, 0, 6, 1, 1) = KIND
        box(2, 0, 0, 0) = KIND
        look(5, 0) = KIND
        count(11) = 6
        count(12) = 7
        count(13) = 3
        read(0, 5, 4) = PLACE
        write(0, 5, 4, 0) = PLACE
        real(0, 5, 6, 1, 1) = PLACE
        box(0, 5, 0, 0) = PLACE
        look(0, 5) = PLACE
        count(11) = 6
        count(12) = 7
        count(13) = 8
        """);
    edge("how often read(), write(), real(), box(), look() were refused (other calls and other answers are not counted)", """
        scene
        read(10, 0, 0) = NONE
        write(1, 0, 8, 0) = NONE
        real(1, 0, 6, 1, 0) = BAD
        box(1, 0, 10, 10) = BAD
        look(6, 0) = NONE
        of(1, 1) = NOTHING
        of(2, 1) = KIND
        fault(4, 1) = NOTHING
        sum(4) = NO
        least(3, 0) = PLACE
        find(4, 0, 4, 0) = ABSENT
        copy(4, 0, 0) = -100
        swap(5, 0) = -100
        fill(3, 5, 0) = -102
        text 1.0<8 = -100
        views(1) = NOTHING
        takes(2, 0) = KIND
        exact(0, 0) = KIND
        alike(1, 2) = NOTHING
        spell(2) = KIND
        read(0, 0, 4) = 1
        count(11) = 1
        count(12) = 2
        count(13) = 3
        """);
    edge("NONE", """
        scene
        ! count(-1) = NONE
        ! count(9) = NONE
        ! count(10) = NONE
        ! count(14) = NONE
        ! count(MIN) = NONE
        ! count(MAX) = NONE
        ! count(-2147483638) = NONE
        ! count(-2147483637) = NONE
        """);
  }

  public static void main(String[] args) {
    newObject();
    make();
    thing();
    same();
    of();
    read();
    latch();
    write();
    real();
    box();
    window();
    windowOf();
    look();
    sum();
    fault();
    least();
    find();
    copy();
    swap();
    fill();
    stop();
    undo();
    redo();
    act();
    views();
    takes();
    exact();
    alike();
    digest();
    spell();
    paper();
    feed();
    run();
    image();
    back();
    count();
    finish();
  }
}
