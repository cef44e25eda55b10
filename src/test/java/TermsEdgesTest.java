/** The sentences of the document's "Terms", each at the edges that it names. */
public final class TermsEdgesTest extends Edges {
  private static final String ROWS = """
      make(0, 0, 3)
      make(1, 1, 3)
      make(2, 2, 3)
      make(3, 3, 3)
      make(4, 4, 3)
      make(5, 5, 3)
      make(6, 6, 3)
      make(7, 7, 3)
      make(8, 8, 3)
      make(9, 9, 3)
      """;

  private static final long[] WHOLES = {0, 1, -1, 127, 128, -128, -129, 255, 256, 32767, 32768, -32768, -32769, 65535, 65536,
      Integer.MAX_VALUE, 2147483648L, Integer.MIN_VALUE, -2147483649L, 4294967295L, 4294967296L, 16777217, 16777219, -16777217,
      9007199254740993L, 9007199254740995L, -9007199254740993L, Long.MAX_VALUE, Long.MAX_VALUE - 512, Long.MAX_VALUE - 511,
      Long.MIN_VALUE, Long.MIN_VALUE + 1024};

  // ---- what rows, things and boxes are

  private static void slotsAndRows() {
    in("Terms, SLOTS");
    StringBuilder first = new StringBuilder();
    for (int s = 0; s <= 9; s++) first.append("of(" + s + ", 0) = -1\nof(" + s + ", 1) = NOTHING\n");
    edge("SLOTS 0 .. 9 each hold NOTHING (at first)", first + """
        ! of(10, 0) = NONE
        ! of(-1, 0) = NONE
        make(0, 4, 1)
        make(9, 4, 1)
        of(0, 0) = 4
        of(9, 0) = 4
        of(1, 0) = -1
        of(8, 0) = -1
        """);
    edge("a ROW, or a THING that is no row: a LABEL or a WORD", """
        make(0, 9, 1)
        thing(1, 0, 9)
        thing(2, 1, 9)
        of(0, 0) = 9
        of(1, 0) = 10
        of(2, 0) = 11
        of(0, 1) = 1
        of(1, 1) = KIND
        of(2, 1) = KIND
        count(0) = 1
        count(1) = 2
        """);
    edge("Several SLOTS may hold the very same ROW", """
        make(0, 4, 2)
        same(1, 0)
        same(2, 1)
        same(3, 2)
        same(4, 3)
        same(5, 4)
        same(6, 5)
        same(7, 6)
        same(8, 7)
        same(9, 8)
        of(0, 2) = 10
        of(9, 2) = 10
        count(0) = 10
        count(2) = 1
        count(3) = 2
        write(9, 1, 4, 5)
        row 0 = i 0 5
        make(0, 4, 2)
        of(9, 2) = 9
        of(0, 2) = 1
        count(2) = 2
        row 0 = i 0 0
        row 4 = i 0 5
        """);
    edge("A ROW has a KIND and 0 .. 32 CELLS", """
        make(0, 0, 0)
        make(1, 9, 32)
        of(0, 1) = 0
        of(1, 1) = 32
        read(0, 0, 8) = PLACE
        read(1, 31, 8) = 1
        read(1, 32, 8) = PLACE
        read(1, -1, 8) = PLACE
        ! make(0, 0, 33) = BAD
        ! make(0, 0, -1) = SIZE
        """);
    StringBuilder zeros = new StringBuilder();
    for (int k = 0; k <= 7; k++) zeros.append("read(" + k + ", 0, 8)\nlatch = " + k + " 0 0\nread(" + k + ", 2, 8)\nlatch = " + k + " 0 0\n");
    edge("(all 0 at first, false), 8 boxes, 9 LABELS (all MISSING at first)", ROWS + zeros + """
        read(8, 0, 8)
        latch = 8 0 NO
        read(8, 2, 8)
        latch = 8 0 NO
        read(9, 0, 8)
        latch = 8 0 NO
        read(9, 2, 8)
        latch = 8 0 NO
        """);
  }

  private static void thingsAndBoxes() {
    in("Terms, BOXES");
    edge("A LABEL has a number (an int)", """
        thing(0, 0, MIN)
        thing(1, 0, MAX)
        digest(0) = -2147476859
        digest(1) = 2147490436
        make(2, 9, 2)
        box(2, 0, 9, MIN)
        box(2, 1, 9, MAX)
        row 2 = l l-2147483648 l2147483647
        """);
    edge("a WORD is a text of 0 .. 9 letters", """
        make(0, 8, 2)
        box(0, 0, 10, 0)
        box(0, 1, 10, 9)
        row 0 = o w0 w9
        ! box(0, 0, 10, -1) = BAD
        ! box(0, 0, 10, 10) = BAD
        thing(1, 1, 0)
        thing(2, 1, 9)
        ! thing(1, 1, -1) = BAD
        ! thing(2, 1, 10) = BAD
        """);
    for (int kind = 0; kind <= 9; kind++) {
      StringBuilder all = new StringBuilder("make(0, 8, 1)\n");
      for (long v : WHOLES) all.append("box(0, 0, " + kind + ", " + v + ")\nread(0, 0, 8)\nlatch = " + kind + " " + valueBy(kind, v) + "\n");
      edge("A BOX of KIND k by a long v (k is " + kind + ")", all.toString());
    }
    edge("bits: whether v isn't 0; whole numbers and signs: its lowest bits", """
        make(0, 8, 12)
        box(0, 0, 0, 4294967296)
        box(0, 1, 0, LEAST)
        box(0, 2, 0, 0)
        box(0, 3, 1, 128)
        box(0, 4, 1, -129)
        box(0, 5, 2, -1)
        box(0, 6, 2, 65536)
        box(0, 7, 3, 32768)
        box(0, 8, 4, 2147483648)
        box(0, 9, 4, 4294967295)
        box(0, 10, 5, LEAST)
        box(0, 11, 5, MOST)
        row 0 = o 1 1 0 -128 127 65535 0 -32768 -2147483648 -1 -9223372036854775808 9223372036854775807
        """);
    edge("floats, doubles: the nearest to v", """
        make(0, 6, 4)
        box(0, 0, 6, 16777217)
        box(0, 1, 6, 16777219)
        box(0, 2, 6, MOST)
        box(0, 3, 6, LEAST)
        row 0 = f 1266679808 1266679810 1593835520 -553648128
        make(1, 7, 4)
        box(1, 0, 7, 9007199254740993)
        box(1, 1, 7, 9007199254740995)
        box(1, 2, 7, MOST)
        box(1, 3, 7, LEAST)
        row 1 = d 4845873199050653696 4845873199050653698 4890909195324358656 -4332462841530417152
        """);
    edge("LABELS: its lowest 32 bits; WORDS: as many letters (0 .. 9)", """
        make(0, 8, 3)
        box(0, 0, 9, 4294967295)
        box(0, 1, 9, 2147483648)
        box(0, 2, 10, 9)
        row 0 = o l-1 l-2147483648 w9
        ! box(0, 2, 10, 4294967296) = BAD
        ! box(0, 2, 10, 4294967300) = BAD
        ! box(0, 2, 10, LEAST) = BAD
        """);
  }

  private static long valueBy(int kind, long v) {
    switch (kind) {
      case 0: return v != 0 ? 1 : 0;
      case 1: return (byte) v;
      case 2: return (char) v;
      case 3: return (short) v;
      case 4: case 9: return (int) v;
      case 6: return Float.floatToIntBits((float) v);
      case 7: return Double.doubleToLongBits((double) v);
      case 8: return 0;
      default: return v;
    }
  }

  // ---- views

  private static boolean mayBeViewed(int kind, int view) {
    String[] as = {"0", "134567", "24567", "34567", "4567", "567", "67", "7"};
    return as[kind].indexOf('0' + view) >= 0;
  }

  private static void views() {
    in("Terms, VIEWS");
    for (int kind = 0; kind <= 7; kind++) {
      StringBuilder all = new StringBuilder("make(0, " + kind + ", 1)\n");
      for (int view = 0; view <= 7; view++) {
        all.append("read(0, 0, " + view + ") = " + (mayBeViewed(kind, view) ? "1" : "KIND") + "\n");
        all.append("make(1, " + view + ", 1)\nwrite(1, 0, " + kind + ", 1) = " + (mayBeViewed(kind, view) ? "1" : "KIND") + "\n");
      }
      edge("A KIND may be VIEWED as itself, and .. (KIND " + kind + ")", all + "read(0, 0, 8)\n");
    }
    for (int kind = 1; kind <= 5; kind++) {
      for (int view = kind; view <= 7; view++) {
        if (mayBeViewed(kind, view)) sameNumber(kind, view);
      }
    }
    edge("floats as 7: the same number", """
        make(0, 6, 5)
        real(0, 0, 6, 1, 3)
        real(0, 1, 6, 0, -1)
        real(0, 2, 6, -1, MIN)
        real(0, 3, 6, MIN, 1)
        read(0, 0, 7)
        latch = 7 4599676419600023552 0
        read(0, 1, 7)
        latch = 7 d:-0.0 0
        read(0, 2, 7)
        latch = 7 d:4.656612873077393E-10 0
        read(0, 3, 7)
        latch = 7 d:-2147483648 -2147483648
        read(0, 4, 7)
        latch = 7 0 0
        """);
  }

  private static void sameNumber(int kind, int view) {
    StringBuilder all = new StringBuilder("make(0, " + kind + ", 1)\nmake(1, " + view + ", 1)\n");
    for (long v : WHOLES) {
      long seen = valueBy(view, valueBy(kind, v));
      all.append("write(0, 0, " + kind + ", " + v + ")\nread(0, 0, " + view + ")\nlatch = " + view + " " + seen + "\n");
      all.append("write(1, 0, " + kind + ", " + v + ")\nread(1, 0, 8)\nlatch = " + view + " " + seen + "\n");
    }
    edge("the same number (floats, doubles: the nearest), KIND " + kind + " as " + view, all.toString());
  }

  // ---- what is refused

  private static void readings() {
    in("Terms, READ");
    edge("NOTHING (-11) the SLOT holds NOTHING", """
        scene
        ! read(1, 0, 8) = NOTHING
        ! read(1, -1, 0) = NOTHING
        ! read(1, MAX, 7) = NOTHING
        """);
    edge("KIND (-12) a THING, or by VIEWS 0 .. 7 a ROW of KIND 8, 9", """
        scene
        ! read(2, 0, 8) = KIND
        ! read(2, -1, 0) = KIND
        ! read(3, 32, 8) = KIND
        ! read(4, 1, 4) = KIND
        ! read(4, 4, 0) = KIND
        ! read(4, -1, 7) = KIND
        ! read(5, 1, 4) = KIND
        ! read(5, 3, 0) = KIND
        ! read(5, MIN, 7) = KIND
        """);
    edge("PLACE (-13) there is no CELL i", """
        scene
        ! read(0, 5, 4) = PLACE
        ! read(0, -1, 4) = PLACE
        ! read(0, 5, 8) = PLACE
        ! read(0, MAX, 4) = PLACE
        ! read(0, MIN, 4) = PLACE
        ! read(0, 5, 3) = PLACE
        ! read(0, -1, 0) = PLACE
        ! read(8, 0, 0) = PLACE
        ! read(8, 0, 7) = PLACE
        ! read(9, 32, 5) = PLACE
        ! read(4, 4, 8) = PLACE
        ! read(5, 3, 8) = PLACE
        ! read(5, -1, 8) = PLACE
        read(0, 4, 4)
        read(9, 31, 5)
        read(4, 3, 8)
        """);
    edge("KIND its KIND may not be VIEWED so", """
        scene
        ! read(0, 0, 3) = KIND
        ! read(0, 4, 0) = KIND
        ! read(9, 31, 4) = KIND
        ! read(7, 0, 6) = KIND
        """);
    edge("What is READ is a BOX: of the VIEW's KIND; by VIEW 8 of the ROW's (of KINDS 8, 9: what the CELL holds)", """
        make(0, 1, 1)
        write(0, 0, 1, -7)
        read(0, 0, 7)
        latch = 7 d:-7 -7
        read(0, 0, 6)
        latch = 6 f:-7 -7
        read(0, 0, 3)
        latch = 3 -7 -7
        read(0, 0, 8)
        latch = 1 -7 -7
        make(1, 8, 3)
        box(1, 0, 0, 1)
        box(1, 1, 10, 0)
        read(1, 0, 8)
        latch = 0 1 1
        read(1, 1, 8)
        latch = 10 0 NO
        read(1, 2, 8)
        latch = 8 0 NO
        make(2, 9, 1)
        box(2, 0, 9, 0)
        read(2, 0, 8)
        latch = 9 0 NO
        """);
  }

  private static void boxings() {
    in("Terms, BOXED");
    edge("Refused, the first of these: NOTHING", """
        scene
        ! box(1, 0, 4, 1) = NOTHING
        ! box(1, -1, 8, 1) = NOTHING
        ! box(1, 40, 10, 1) = NOTHING
        """);
    edge("KIND a THING, or MISSING for a ROW of KIND 0 .. 7", """
        scene
        ! box(2, 0, 9, 1) = KIND
        ! box(3, -1, 10, 4) = KIND
        ! box(3, 0, 8, 0) = KIND
        ! box(0, 0, 8, 0) = KIND
        ! box(0, 5, 8, 0) = KIND
        ! box(0, -1, 8, 0) = KIND
        ! box(7, 3, 8, 0) = KIND
        ! box(8, 0, 8, 0) = KIND
        """);
    edge("PLACE", """
        scene
        ! box(0, 5, 4, 1) = PLACE
        ! box(0, -1, 4, 1) = PLACE
        ! box(0, 5, 5, 1) = PLACE
        ! box(0, MIN, 9, 1) = PLACE
        ! box(0, MAX, 10, 1) = PLACE
        ! box(8, 0, 0, 1) = PLACE
        ! box(8, 0, 7, 1) = PLACE
        ! box(4, 4, 8, 1) = PLACE
        ! box(4, -1, 4, 1) = PLACE
        ! box(5, 3, 8, 1) = PLACE
        ! box(5, 3, 4, 1) = PLACE
        ! box(9, 32, 5, 1) = PLACE
        box(9, 31, 5, 1)
        box(4, 3, 8, 1)
        box(5, 2, 8, 1)
        """);
    edge("KIND for a ROW of KIND 0 .. 7 a BOX of a KIND that may not be VIEWED as the ROW's", """
        scene
        ! box(0, 0, 5, 1) = KIND
        ! box(0, 4, 6, 1) = KIND
        ! box(0, 0, 0, 1) = KIND
        ! box(0, 0, 9, 1) = KIND
        ! box(0, 0, 10, 1) = KIND
        ! box(9, 31, 6, 1) = KIND
        ! box(7, 0, 0, 1) = KIND
        ! box(7, 0, 9, 1) = KIND
        box(0, 0, 2, 65535)
        row 0 = i 65535 22 0 0 0
        """);
    edge("for one of LABELS a BOX that is neither a LABEL nor MISSING (for one of boxes none is refused)", """
        scene
        ! box(5, 0, 0, 1) = KIND
        ! box(5, 0, 4, 1) = KIND
        ! box(5, 0, 7, 1) = KIND
        ! box(5, 0, 10, 1) = KIND
        box(5, 0, 9, 1)
        box(5, 1, 8, 1)
        row 5 = l l1 - -
        box(4, 0, 0, 1)
        box(4, 0, 7, 1)
        box(4, 0, 8, 1)
        box(4, 0, 9, 1)
        box(4, 0, 10, 1)
        """);
    edge("The CELL becomes it, as VIEWED by the ROW's KIND", """
        make(0, 6, 3)
        box(0, 0, 5, 16777217)
        box(0, 1, 1, 255)
        box(0, 2, 6, 16777219)
        row 0 = f 1266679808 -1082130432 1266679810
        read(0, 0, 8)
        latch = 6 1266679808 16777216
        make(1, 8, 1)
        box(1, 0, 1, 255)
        read(1, 0, 8)
        latch = 1 -1 -1
        """);
    edge("WRITTEN by a VIEW 0 .. 7: .. as if BOXED, but that a ROW of KIND 8, 9 is refused: KIND, ahead of PLACE", """
        scene
        ! write(4, 0, 4, 1) = KIND
        ! write(4, 4, 4, 1) = KIND
        ! write(4, -1, 0, 1) = KIND
        ! write(5, 0, 7, 1) = KIND
        ! write(5, 3, 4, 1) = KIND
        ! real(4, 4, 6, 1, 1) = KIND
        ! real(5, 0, 7, 1, 1) = KIND
        ! write(1, 0, 4, 1) = NOTHING
        ! write(2, 9, 4, 1) = KIND
        ! write(0, 5, 4, 1) = PLACE
        ! write(0, 5, 7, 1) = PLACE
        ! write(0, 4, 7, 1) = KIND
        """);
  }

  private static void valuesAndLikeness() {
    in("Terms, VALUE");
    edge("VALUE of a BOX: bits 1, 0; signs their code; .. MISSING 0; a LABEL its number; a WORD its length", """
        make(0, 8, 10)
        box(0, 0, 0, 77)
        box(0, 1, 0, 0)
        box(0, 2, 2, 65535)
        box(0, 3, 1, -128)
        box(0, 4, 6, -1)
        box(0, 5, 7, -1)
        box(0, 6, 8, 77)
        box(0, 7, 9, -77)
        box(0, 8, 10, 9)
        box(0, 9, 5, LEAST)
        row 0 = o 1 0 65535 -128 -1082130432 -4616189618054758400 - l-77 w9 -9223372036854775808
        read(0, 6, 8)
        latch = 8 0 NO
        read(0, 8, 8)
        latch = 10 9 NO
        """);
    edge("AMOUNT: .. of floats, doubles what is whole of it (cut, as Java casts to a long); of others none", """
        make(0, 7, 8)
        real(0, 0, 7, 7, 2)
        real(0, 1, 7, -7, 2)
        real(0, 2, 7, -1, 3)
        real(0, 3, 7, 0, -1)
        write(0, 4, 7, MOST)
        write(0, 5, 7, LEAST)
        write(0, 6, 7, 9007199254740993)
        real(0, 7, 7, 2147483647, 2)
        read(0, 0, 7)
        latch(2) = 3
        read(0, 1, 7)
        latch(2) = -3
        read(0, 2, 7)
        latch(2) = 0
        read(0, 3, 7)
        latch(2) = 0
        read(0, 4, 7)
        latch(2) = MOST
        read(0, 5, 7)
        latch(2) = LEAST
        read(0, 6, 7)
        latch(2) = 9007199254740992
        read(0, 7, 7)
        latch(2) = 1073741823
        write(0, 0, 7, 9007199254740991)
        write(0, 1, 7, -4503599627370497)
        write(0, 2, 7, 2251799813685249)
        write(0, 3, 7, 4611686018427387904)
        write(0, 4, 7, -4611686018427387904)
        read(0, 0, 7)
        latch(2) = 9007199254740991
        read(0, 1, 7)
        latch(2) = -4503599627370497
        read(0, 2, 7)
        latch(2) = 2251799813685249
        read(0, 3, 7)
        latch(2) = 4611686018427387904
        read(0, 4, 7)
        latch(2) = -4611686018427387904
        make(1, 6, 3)
        write(1, 0, 6, MOST)
        write(1, 1, 6, LEAST)
        real(1, 2, 6, -99, 100)
        read(1, 0, 6)
        latch(2) = MOST
        read(1, 1, 6)
        latch(2) = LEAST
        read(1, 2, 6)
        latch(2) = 0
        make(2, 8, 3)
        box(2, 1, 9, 5)
        box(2, 2, 10, 5)
        read(2, 0, 8)
        latch(2) = NO
        read(2, 1, 8)
        latch(2) = NO
        read(2, 2, 8)
        latch(2) = NO
        """);
    edge("THE LATCH keeps the BOX that read(), look() gave last (MISSING at first)", """
        latch = 8 0 NO
        make(0, 4, 2)
        write(0, 0, 4, 3)
        latch = 8 0 NO
        read(0, 0, 5)
        latch = 5 3 3
        write(0, 0, 4, 4)
        undo()
        latch = 5 3 3
        window(0, 0, 1, 1, 1, 4)
        ! sum(0) = 0
        ! find(0, 0, 4, 0) = 0
        look(0, 0)
        latch = 4 0 0
        ! look(0, 1) = PLACE
        ! read(1, 0, 0) = NOTHING
        latch = 4 0 0
        make(0, 9, 2)
        latch = 4 0 0
        """);
    edge("ALIKE are two BOXES: both bits, and the same; both numbers and no bits", """
        make(0, 8, 4)
        window(0, 0, 0, 1, 4, 8)
        box(0, 0, 0, 1)
        box(0, 1, 0, 0)
        box(0, 2, 1, 1)
        box(0, 3, 2, 0)
        find(0, 0, 0, 1) = 0
        find(0, 0, 0, 0) = 1
        find(0, 0, 1, 1) = 2
        find(0, 0, 1, 0) = 3
        find(0, 0, 7, 1) = 2
        find(0, 0, 6, 0) = 3
        find(0, 2, 0, 1) = ABSENT
        find(0, 2, 0, 0) = ABSENT
        """);
    edge("if both are whole or signs: VALUES are the same; else the same as doubles (0.0 and -0.0 are)", """
        make(0, 5, 2)
        make(1, 7, 3)
        make(2, 6, 2)
        make(3, 2, 1)
        write(0, 0, 5, 9007199254740993)
        write(0, 1, 5, MOST)
        window(0, 0, 0, 1, 2, 8)
        find(0, 0, 5, 9007199254740992) = ABSENT
        find(0, 0, 7, 9007199254740992) = 0
        find(0, 0, 5, 9223372036854775806) = ABSENT
        find(0, 0, 6, LEAST) = ABSENT
        find(0, 0, 6, MOST) = 1
        real(1, 0, 7, 1, 3)
        real(1, 1, 7, 0, -1)
        real(2, 0, 6, 1, 3)
        real(2, 1, 6, 0, -1)
        alike(1, 2) = 0
        window(1, 1, 0, 1, 3, 8)
        find(1, 0, 7, 0) = 1
        find(1, 0, 2, 0) = 1
        find(1, 0, 0, 0) = ABSENT
        window(2, 2, 0, 1, 2, 8)
        find(2, 0, 6, 0) = 1
        find(2, 0, 7, 0) = 1
        write(3, 0, 2, 65535)
        window(3, 3, 0, 1, 1, 8)
        find(3, 0, 3, -1) = ABSENT
        find(3, 0, 4, 65535) = 0
        find(3, 0, 6, 65535) = 0
        """);
    edge("both MISSING; LABELS with the same number; WORDS as long", """
        make(0, 8, 5)
        window(0, 0, 0, 1, 5, 8)
        box(0, 0, 9, 0)
        box(0, 1, 10, 0)
        box(0, 2, 4, 0)
        box(0, 4, 9, 3)
        find(0, 0, 8, 55) = 3
        find(0, 0, 9, 0) = 0
        find(0, 0, 9, 3) = 4
        find(0, 0, 10, 0) = 1
        find(0, 0, 10, 3) = ABSENT
        find(0, 0, 4, 0) = 2
        find(0, 0, 4, 3) = ABSENT
        find(0, 0, 9, 4294967296) = 0
        """);
  }

  // ---- windows, moves, the journal

  private static void windows() {
    in("Terms, WINDOWS");
    StringBuilder first = new StringBuilder();
    for (int w = 0; w <= 5; w++) {
      first.append("windowOf(" + w + ", 0) = 0\nwindowOf(" + w + ", 1) = 0\nwindowOf(" + w + ", 2) = 1\n");
      first.append("windowOf(" + w + ", 3) = 0\nwindowOf(" + w + ", 4) = 8\n");
    }
    edge("WINDOWS 0 .. 5: .. at first SLOT 0, FROM 0, STEP 1, MANY 0, VIEW 8", first + """
        ! windowOf(6, 0) = NONE
        ! windowOf(-1, 0) = NONE
        """);
    edge("a place FROM (-9 .. 40), a STEP (-3 .. 3), MANY (0 .. 32) CELLS, a VIEW", """
        scene
        ! window(0, 0, -10, 1, 1, 8) = BAD
        ! window(0, 0, 41, 1, 1, 8) = BAD
        ! window(0, 0, 0, -4, 1, 8) = BAD
        ! window(0, 0, 0, 4, 1, 8) = BAD
        ! window(0, 0, 0, 1, -1, 8) = BAD
        ! window(0, 0, 0, 1, 33, 8) = BAD
        ! window(0, 0, 0, 1, 1, -1) = BAD
        ! window(0, 0, 0, 1, 1, 9) = BAD
        window(0, 0, -9, -3, 0, 0)
        window(0, 9, 40, 3, 32, 8)
        window(0, 9, 0, 0, 32, 8)
        """);
    edge("Its CELL j (0 .. MANY less 1; any other: PLACE, ahead of all else)", """
        scene
        ! look(4, 3) = PLACE
        ! look(4, -1) = PLACE
        ! look(4, 2) = NOTHING
        ! look(5, 3) = PLACE
        ! look(5, -1) = PLACE
        ! look(5, 2) = KIND
        ! look(0, 5) = PLACE
        ! look(0, MAX) = PLACE
        ! look(0, MIN) = PLACE
        look(0, 4)
        look(0, 0)
        window(0, 0, 0, 1, 0, 8)
        ! look(0, 0) = PLACE
        """);
    edge("is CELL FROM and j times STEP of whatever the SLOT holds then, READ by its VIEW", """
        make(0, 1, 32)
        write(0, 0, 1, 10)
        write(0, 1, 1, 11)
        write(0, 31, 1, 41)
        window(0, 0, -9, 3, 4, 4)
        ! look(0, 2) = PLACE
        look(0, 3)
        latch = 4 10 10
        window(0, 0, 31, -3, 12, 8)
        look(0, 0)
        latch = 1 41 41
        look(0, 10)
        latch = 1 11 11
        ! look(0, 11) = PLACE
        window(0, 0, 40, -3, 4, 8)
        ! look(0, 2) = PLACE
        look(0, 3)
        latch = 1 41 41
        window(0, 0, 31, 0, 32, 7)
        look(0, 31)
        latch = 7 d:41 41
        make(0, 9, 32)
        ! look(0, 31) = KIND
        window(0, 0, 31, 0, 32, 8)
        look(0, 31)
        latch = 8 0 NO
        thing(0, 1, 3)
        ! look(0, 31) = KIND
        thing(0, -1, 0)
        ! look(0, 31) = NOTHING
        """);
    edge("PUT into a CELL of a WINDOW (its SLOT, place; the VIEW of that one doesn't matter)", """
        make(0, 4, 2)
        make(1, 5, 4)
        fill(0, 4, 0)
        window(0, 0, 0, 1, 2, 8)
        fill(0, 4, 7)
        window(1, 1, 3, -3, 2, 0)
        copy(0, 1, 0) = 2
        row 1 = j 7 0 0 7
        window(1, 1, 1, 1, 2, 4)
        copy(0, 1, 1) = 2
        row 1 = j 7 7 7 7
        """);
    edge("WRITTEN by the VIEW by which it was READ; if that is 8, BOXED", """
        make(0, 4, 2)
        make(1, 8, 2)
        make(2, 5, 2)
        window(0, 0, 0, 1, 1, 4)
        window(1, 1, 0, 1, 1, 8)
        window(2, 2, 0, 1, 1, 8)
        ! copy(0, 1, 0) = -100 at 0 1 KIND
        ! copy(0, 1, 1) = -100 at 0 1 KIND
        window(1, 1, 2, 1, 1, 8)
        ! copy(0, 1, 0) = -100 at 0 1 KIND
        window(1, 1, 0, 1, 1, 8)
        window(0, 0, 0, 1, 1, 7)
        ! copy(0, 2, 0) = -100 at 0 1 KIND
        window(0, 0, 0, 1, 1, 8)
        copy(0, 1, 0) = 1
        row 1 = o 0 -
        copy(0, 2, 0) = 1
        """);
  }

  private static void moves() {
    in("Terms, MOVES");
    edge("MOVES are all or nothing: where one is refused, all CELLS are as they were", """
        scene
        ! fill(3, 5, 1) = -102 at 2 1 PLACE
        ! copy(0, 3, 0) = -102 at 2 1 PLACE
        ! copy(0, 3, 1) = -102 at 2 1 PLACE
        window(4, 4, 0, 1, 4, 8)
        ! swap(2, 3) = -102 at 2 1 PLACE
        ! text 0.0<41;6.0<42;0.0=0.1:4;0.9<41 = -103 at 3 1 PLACE
        row 0 = i 11 22 0 0 0
        """);
    edge("where one is refused, all CELLS are as they were (a CELL that was put several times)", """
        make(0, 4, 2)
        make(1, 8, 2)
        write(0, 0, 4, 5)
        box(1, 0, 10, 2)
        window(0, 0, 0, 0, 4, 8)
        window(1, 0, 0, 1, 3, 8)
        fill(0, 4, 6) = 4
        row 0 = i 6 0
        undo()
        row 0 = i 5 0
        ! copy(0, 1, 0) = -102 at 2 1 PLACE
        ! text 0.0<41;0.0<42;1.0<8;1.0<43;0.2<44 = -104 at 4 1 PLACE
        row 0 = i 5 0
        row 1 = o w2 -
        """);
    edge("THE STOP tells it (CELL j, side, refusal); they answer -100 less j then", """
        make(0, 4, 32)
        make(1, 4, 31)
        window(0, 0, 0, 1, 32, 8)
        window(1, 1, 0, 1, 32, 8)
        ! copy(0, 1, 0) = -131 at 31 1 PLACE
        ! copy(1, 0, 0) = -131 at 31 0 PLACE
        ! swap(0, 1) = -131 at 31 1 PLACE
        ! swap(1, 0) = -131 at 31 0 PLACE
        ! fill(1, 4, 1) = -131 at 31 1 PLACE
        ! fill(1, 5, 1) = -100 at 0 1 KIND
        window(1, 2, 0, 1, 32, 8)
        ! fill(1, 5, 1) = -100 at 0 1 NOTHING
        copy(0, 0, 0) = 32
        stop = 0 1 NOTHING
        """);
    edge("COPIED (how 0): for j 0, 1, ..: READ (side 0), PUT (1); (how 1): first all are READ, then all are PUT", """
        make(0, 4, 4)
        write(0, 0, 4, 1)
        write(0, 1, 4, 2)
        write(0, 2, 4, 3)
        window(0, 0, 0, 1, 3, 8)
        window(1, 0, 1, 1, 3, 8)
        copy(0, 1, 0) = 3
        row 0 = i 1 1 1 1
        undo() = 3
        copy(0, 1, 1) = 3
        row 0 = i 1 1 2 3
        undo() = 3
        window(2, 0, 2, 1, 3, 8)
        window(3, 0, 3, 1, 3, 8)
        ! copy(2, 3, 0) = -101 at 1 1 PLACE
        ! copy(2, 3, 1) = -102 at 2 0 PLACE
        window(3, 0, 0, 1, 1, 8)
        ! copy(2, 3, 0) = -101 at 1 1 PLACE
        ! copy(2, 3, 1) = -102 at 2 0 PLACE
        """);
    edge("SWAPPED: .. READ by VIEW 8 (0), of the second likewise (1); the first's is BOXED .. (2), the second's .. (3)", """
        make(0, 4, 3)
        make(1, 5, 2)
        make(2, 8, 3)
        window(0, 0, 0, 1, 3, 8)
        window(1, 1, 0, 1, 3, 8)
        window(2, 2, 0, 1, 3, 8)
        window(3, 3, 0, 1, 3, 8)
        ! swap(3, 0) = -100 at 0 0 NOTHING
        ! swap(0, 3) = -100 at 0 1 NOTHING
        ! swap(1, 0) = -100 at 0 2 KIND
        ! swap(0, 1) = -100 at 0 3 KIND
        ! swap(0, 2) = -100 at 0 3 KIND
        ! swap(2, 0) = -100 at 0 2 KIND
        box(2, 0, 4, 9)
        ! swap(0, 2) = -101 at 1 3 KIND
        ! swap(2, 0) = -101 at 1 2 KIND
        row 0 = i 0 0 0
        row 2 = o 9 - -
        window(0, 0, 0, 1, 3, 0)
        window(1, 0, 2, -1, 3, 7)
        write(0, 0, 4, 1)
        write(0, 1, 4, 2)
        write(0, 2, 4, 3)
        swap(0, 1) = 3
        row 0 = i 1 2 3
        act(4, 0) = 6
        """);
    edge("FILLED: a BOX is BOXED into all its CELLS (1)", """
        make(0, 8, 3)
        make(1, 9, 1)
        window(0, 0, 0, 1, 3, 0)
        fill(0, 8, 1) = 3
        fill(0, 10, 0) = 3
        row 0 = o w0 w0 w0
        window(1, 1, 0, 0, 32, 8)
        fill(1, 9, -1) = 32
        row 1 = l l-1
        ! fill(1, 10, 1) = -100 at 0 1 KIND
        ! fill(1, 4, 1) = -100 at 0 1 KIND
        """);
  }

  private static void journal() {
    in("Terms, JOURNAL");
    edge("an ACT is a write(), real(), box() that isn't refused, or a MOVE that isn't and has put any", """
        make(0, 7, 4)
        write(0, 0, 7, 1)
        count(4) = 1
        real(0, 0, 6, 1, 1)
        count(4) = 2
        box(0, 0, 5, 1)
        count(4) = 3
        ! write(0, 4, 7, 1) = PLACE
        ! real(0, 4, 7, 1, 1) = PLACE
        ! box(0, 0, 8, 1) = KIND
        ! copy(0, 0, 0) = 0
        ! copy(0, 0, 1) = 0
        ! swap(0, 0) = 0
        ! fill(0, 4, 1) = 0
        count(4) = 3
        window(0, 0, 0, 1, 1, 8)
        copy(0, 0, 0) = 1
        swap(0, 0) = 1
        fill(0, 4, 1) = 1
        text 0.0<41 = 1
        count(4) = 7
        act(3, 0) = 1
        act(4, 0) = 2
        read(0, 0, 7)
        window(0, 0, 0, 1, 2, 8)
        image()
        spell(0)
        count(4) = 7
        """);
    edge("an ACT is a write() .. that isn't refused (one that puts what the CELL is already)", """
        make(0, 4, 2)
        write(0, 1, 4, 0)
        count(4) = 1
        of(0, 3) = 1
        act(0, 10) = 1
        undo() = 1
        count(5) = 1
        """);
    edge("its CELLS in the order in which they were put, with what each was and is", """
        make(0, 4, 4)
        make(1, 4, 4)
        window(0, 0, 3, -1, 4, 8)
        window(1, 1, 0, 1, 4, 8)
        fill(0, 4, 1)
        act(0, 10) = 3
        act(0, 13) = 0
        swap(0, 1)
        act(1, 10) = 0
        act(1, 11) = 3
        act(1, 16) = 3
        act(1, 17) = 0
        text 0.2<41;0.2<42;1.3<41 = 3
        act(2, 0) = 3
        act(2, 10) = 2
        act(2, 11) = 2
        act(2, 12) = 3
        undo() = 3
        row 0 = i 0 0 0 0
        redo() = 3
        row 0 = i 0 0 2 0
        """);
    edge("The latest 24 ACTS are kept", """
        make(0, 4, 4)
        write(0, 3, 4, 99)
        write(0, 2, 4, 98)
        22 * write(0, 0, 4, 1)
        count(4) = 24
        act(0, 10) = 3
        act(23, 10) = 0
        write(0, 1, 4, 5)
        count(4) = 24
        act(0, 10) = 2
        act(23, 10) = 1
        ! act(24, 0) = NONE
        write(0, 1, 4, 6)
        act(0, 10) = 0
        24 * undo() = 1
        ! undo() = STATE
        row 0 = i 0 0 98 99
        count(5) = 24
        24 * redo() = 1
        ! redo() = STATE
        row 0 = i 1 6 98 99
        """);
    edge("UNDONE: the latest ACT's CELLS become what they were, the last one first; DONE AGAIN: .. the first one first", """
        make(0, 8, 2)
        box(0, 0, 10, 5)
        window(0, 0, 0, 0, 3, 8)
        window(1, 0, 0, 1, 2, 8)
        text 0.0<41;0.0<42;0.0<8 = 3
        row 0 = o - -
        undo() = 3
        row 0 = o w5 -
        redo() = 3
        row 0 = o - -
        text 0.1<91;0.0<72 = 2
        undo() = 2
        undo() = 3
        undo() = 1
        row 0 = o - -
        redo() = 1
        row 0 = o w5 -
        redo() = 3
        redo() = 2
        row 0 = o 4611686018427387904 l1
        """);
    edge("Another ACT: none can be DONE AGAIN any more", """
        make(0, 4, 2)
        3 * write(0, 0, 4, 1)
        2 * undo()
        count(5) = 2
        ! write(0, 2, 4, 1) = PLACE
        ! fill(0, 4, 1) = 0
        count(5) = 2
        redo() = 1
        count(5) = 1
        write(0, 1, 4, 2)
        count(5) = 0
        count(4) = 3
        ! redo() = STATE
        undo()
        undo()
        count(4) = 1
        window(0, 0, 0, 1, 1, 8)
        fill(0, 4, 9) = 1
        ! redo() = STATE
        count(4) = 2
        """);
    edge("As soon as a ROW is held by no SLOT any more, ACTS (UNDONE ones, too) that have a CELL of it are no more", """
        make(0, 4, 2)
        make(1, 4, 2)
        same(2, 0)
        write(0, 0, 4, 1)
        write(1, 0, 4, 2)
        text 1.1<43;2.1<44 = 2
        write(1, 1, 4, 5)
        write(2, 0, 4, 6)
        2 * undo()
        make(0, 4, 2)
        count(4) = 3
        count(5) = 2
        thing(2, 0, 1)
        count(4) = 1
        count(5) = 1
        act(0, 10) = 0
        redo() = 1
        row 1 = i 2 5
        ! redo() = STATE
        undo() = 1
        row 1 = i 2 3
        undo() = 1
        row 1 = i 0 3
        ! undo() = STATE
        """);
    edge("As soon as a ROW is held by no SLOT any more (by each call that a SLOT holds another thing by)", """
        make(0, 4, 1)
        write(0, 0, 4, 1)
        make(0, 4, 1)
        count(4) = 0
        write(0, 0, 4, 1)
        thing(0, 1, 1)
        count(4) = 0
        make(0, 4, 1)
        write(0, 0, 4, 1)
        thing(0, -1, 1)
        count(4) = 0
        make(0, 4, 1)
        write(0, 0, 4, 1)
        same(0, 1)
        count(4) = 0
        make(0, 4, 1)
        write(0, 0, 4, 1)
        same(0, 0)
        count(4) = 1
        same(1, 0)
        make(0, 4, 1)
        count(4) = 1
        same(1, 0)
        count(4) = 0
        """);
    edge("As soon as a ROW is held by no SLOT any more (a ROW that was only READ)", """
        make(0, 4, 1)
        make(1, 4, 1)
        window(0, 0, 0, 1, 1, 8)
        window(1, 1, 0, 1, 1, 8)
        copy(0, 1, 0)
        thing(0, -1, 0)
        count(4) = 1
        undo() = 1
        """);
    edge("TOUCHED are CELLS of a ROW that an ACT ever put (UNDONE ones, too)", """
        make(0, 4, 32)
        make(1, 4, 1)
        window(0, 0, 30, 1, 3, 8)
        window(1, 0, 0, 1, 3, 8)
        ! fill(0, 4, 1) = -102 at 2 1 PLACE
        of(0, 3) = 0
        of(0, 4) = ABSENT
        write(0, 31, 4, 1)
        of(0, 3) = 1
        of(0, 4) = 31
        undo()
        of(0, 3) = 1
        write(0, 0, 4, 0)
        of(0, 3) = 2
        of(0, 4) = 0
        24 * write(1, 0, 4, 1)
        of(0, 3) = 2
        copy(1, 1, 0) = 3
        of(0, 3) = 4
        count(8) = 5
        read(0, 5, 4)
        of(0, 3) = 4
        same(2, 0)
        of(2, 3) = 4
        count(8) = 5
        """);
  }

  // ---- in thought

  private static void thoughts() {
    in("Terms, in thought");
    edge("All that follows changes nothing", """
        scene
        ! sum(0) = 33
        ! sum(3) = NO
        ! fault(0, 0) = ABSENT
        ! fault(3, 1) = PLACE
        ! least(0, 0) = 2
        ! least(3, 0) = PLACE
        ! find(0, 0, 4, 22) = 1
        ! find(0, 2, 4, 22) = ABSENT
        ! views(0) = 496
        ! takes(0, 4) = 1
        ! exact(0, 6) = 5
        ! alike(0, 6) = ABSENT
        ! alike(0, 9) = 0
        ! digest(1) = 218
        """);
    edge("SUM of a WINDOW: AMOUNTS of its CELLS together (a long that wraps)", """
        make(0, 5, 3)
        window(0, 0, 0, 1, 3, 5)
        sum(1) = 0
        sum(0) = 0
        write(0, 0, 5, MOST)
        write(0, 1, 5, 1)
        sum(0) = LEAST
        fault(0, 0) = ABSENT
        write(0, 2, 5, MOST)
        sum(0) = -1
        window(0, 0, 0, 0, 32, 5)
        sum(0) = -32
        window(0, 0, 1, 1, 1, 7)
        sum(0) = 1
        """);
    edge("FAULT of it: the first CELL that is refused, or has no AMOUNT (KIND then)", """
        make(0, 8, 3)
        window(0, 0, 0, 1, 0, 8)
        fault(0, 0) = ABSENT
        window(0, 0, 0, 1, 4, 8)
        fault(0, 0) = 0
        fault(0, 1) = KIND
        box(0, 0, 0, 0)
        box(0, 1, 9, 1)
        fault(0, 0) = 1
        fault(0, 1) = KIND
        box(0, 1, 7, 1)
        box(0, 2, 10, 1)
        fault(0, 0) = 2
        fault(0, 1) = KIND
        box(0, 2, 2, 1)
        fault(0, 0) = 3
        fault(0, 1) = PLACE
        window(0, 0, 0, 1, 3, 8)
        fault(0, 0) = ABSENT
        fault(0, 1) = ABSENT
        window(0, 0, 0, 1, 3, 4)
        fault(0, 0) = 0
        fault(0, 1) = KIND
        """);
    edge("The i-th LEAST of it (VIEWS 0 .. 7 alone): its CELLS by numbers (.. 0.0 and -0.0 are like; bits false ahead), like ones by j", """
        make(0, 7, 4)
        real(0, 1, 7, 0, -1)
        real(0, 3, 7, -1, 3)
        window(0, 0, 0, 1, 4, 7)
        least(0, 0) = 3
        least(0, 1) = 0
        least(0, 2) = 1
        least(0, 3) = 2
        least(0, 4) = ABSENT
        window(0, 0, 0, 1, 4, 8)
        ! least(0, 0) = BAD
        make(1, 6, 5)
        real(1, 0, 6, -1, 3)
        real(1, 1, 6, -2, 3)
        real(1, 3, 6, 0, -1)
        real(1, 4, 6, 1, 3)
        window(1, 1, 0, 1, 5, 6)
        least(1, 0) = 1
        least(1, 1) = 0
        least(1, 2) = 2
        least(1, 3) = 3
        least(1, 4) = 4
        make(1, 0, 3)
        write(1, 0, 0, 1)
        window(1, 1, 0, 1, 3, 0)
        least(1, 0) = 1
        least(1, 1) = 2
        least(1, 2) = 0
        make(2, 5, 3)
        write(2, 0, 5, MOST)
        write(2, 1, 5, LEAST)
        window(2, 2, 0, 1, 3, 5)
        least(2, 0) = 1
        least(2, 1) = 2
        least(2, 2) = 0
        make(3, 2, 2)
        write(3, 0, 2, 65535)
        window(3, 3, 0, 1, 2, 2)
        least(3, 0) = 1
        least(3, 1) = 0
        """);
    edge("VIEWS of a SLOT: those by which a CELL of such a ROW is READ", """
        make(0, 0, 0)
        make(9, 9, 0)
        make(1, 1, 32)
        views(0) = 257
        views(9) = 256
        views(1) = 506
        """);
    edge("TAKES: whether a BOX of a KIND (as by v 1) could be BOXED into a CELL of it", """
        make(0, 0, 0)
        make(8, 8, 0)
        make(9, 9, 0)
        takes(0, 0) = 1
        takes(0, 8) = 0
        takes(0, 10) = 0
        takes(8, 0) = 1
        takes(8, 8) = 1
        takes(8, 10) = 1
        takes(9, 7) = 0
        takes(9, 8) = 1
        takes(9, 9) = 1
        takes(9, 10) = 0
        """);
    edge("EXACT by a VIEW: how many CELLS have the AMOUNT that they have when READ by it", """
        make(0, 5, 6)
        exact(0, 6) = 6
        write(0, 0, 5, 16777216)
        write(0, 1, 5, 16777217)
        write(0, 2, 5, 9007199254740992)
        write(0, 3, 5, 9007199254740993)
        write(0, 4, 5, MOST)
        write(0, 5, 5, 9223372036854775806)
        exact(0, 5) = 6
        exact(0, 6) = 3
        exact(0, 7) = 4
        make(1, 6, 1)
        real(1, 0, 6, 1, 3)
        exact(1, 7) = 1
        exact(1, 6) = 1
        """);
    edge("ALIKE are two SLOTS: the first CELL in which their ROWS aren't ALIKE (as READ by VIEW 8), or that one of them hasn't", """
        make(0, 4, 32)
        make(1, 7, 32)
        make(2, 1, 31)
        make(3, 9, 0)
        make(4, 0, 0)
        make(5, 0, 32)
        alike(0, 1) = ABSENT
        alike(0, 0) = ABSENT
        alike(0, 2) = 31
        alike(2, 0) = 31
        alike(3, 4) = ABSENT
        alike(3, 0) = 0
        alike(0, 3) = 0
        alike(0, 5) = 0
        write(0, 31, 4, 1)
        alike(0, 1) = 31
        write(0, 30, 4, 1)
        alike(0, 2) = 30
        """);
    edge("DIGEST of a SLOT: .. (Longs that wrap.)", """
        digest(0) = 218
        thing(0, 0, 0)
        digest(0) = 6789
        thing(0, 0, MIN)
        digest(0) = -2147476859
        thing(0, 1, 9)
        digest(0) = 6798
        make(0, 0, 0)
        digest(0) = 6820
        make(0, 9, 0)
        digest(0) = 7099
        make(0, 9, 1)
        digest(0) = 6823348
        make(0, 5, 1)
        write(0, 0, 5, MOST)
        digest(0) = -9223372036848071718
        """);
    edge("SPELLED, a ROW: its letter .. of LABELS l and the number, of WORDS w and the length, MISSING - alone", """
        make(0, 8, 6)
        box(0, 0, 9, -1)
        box(0, 1, 9, 0)
        box(0, 2, 10, 0)
        box(0, 4, 4, -1)
        box(0, 5, 0, 1)
        row 0 = o l-1 l0 w0 - -1 1
        make(0, 9, 2)
        box(0, 1, 9, MIN)
        row 0 = l - l-2147483648
        make(0, 0, 0)
        row 0 = z
        make(0, 9, 0)
        row 0 = l
        """);
    edge("THE PAPER holds the latest one (nothing at first)", """
        count(7) = 0
        ! paper(0) = NONE
        make(0, 4, 3)
        make(1, 4, 0)
        row 0 = i 0 0 0
        row 1 = i
        count(7) = 1
        ! paper(1) = NONE
        ! spell(2) = NOTHING
        count(7) = 1
        paper(0) = 105
        """);
  }

  // ---- texts, the image

  private static void texts() {
    in("Terms, THE TAPE");
    edge("THE TAPE holds 0 .. 120 bytes", """
        count(6) = 0
        119 * feed(48)
        feed(48) = 120
        ! feed(48) = FULL
        count(6) = 120
        run() = -1001
        count(6) = 0
        feed(48) = 1
        """);
    edge("A TEXT: LINES, one or more, parted by ;", """
        make(8, 8, 1)
        ! text  = -1000
        ! text ; = -1000
        text 8.0<8 = 1
        ! text 8.0<8; = -1006
        ! text 8.0<8;; = -1006
        ! text ;8.0<8 = -1000
        ! text 8.0<8,8.0<8 = -1005
        text 8.0<8;8.0<8 = 2
        """);
    edge("A . I = B . J : V .. or A . I < K N .. No blanks", """
        make(0, 4, 2)
        text 0.0=0.1:4 = 1
        text 0.0<41 = 1
        ! text 0 = -1001
        ! text 0. = -1002
        ! text 0.0 = -1003
        ! text 0.0= = -1004
        ! text 0.0=0 = -1005
        ! text 0.0=0. = -1006
        ! text 0.0=0.1 = -1007
        ! text 0.0=0.1: = -1008
        ! text 0.0< = -1004
        ! text 0.0<4 = -1005
        ! text 0.0<4- = -1006
        ! text  0.0<41 = -1000
        ! text 0 .0<41 = -1001
        ! text 0. 0<41 = -1002
        ! text 0.0 <41 = -1003
        ! text 0.0< 41 = -1004
        ! text 0.0<4 1 = -1005
        ! text 0.0<41  = -1006
        ! text 0.0<41 ;0.0<41 = -1006
        ! text 0.0<41; 0.0<41 = -1007
        """);
    edge("A . I = B . J : V (a blank in it, another sign in it)", """
        make(0, 4, 2)
        ! text 0.0 =0.1:4 = -1003
        ! text 0.0= 0.1:4 = -1004
        ! text 0.0=0 .1:4 = -1005
        ! text 0.0=0. 1:4 = -1006
        ! text 0.0=0.1 :4 = -1007
        ! text 0.0=0.1: 4 = -1008
        ! text 0.0=0.1:4  = -1009
        ! text 0:0=0.1:4 = -1001
        ! text 0.0:0.1:4 = -1003
        ! text 0.0=0:1:4 = -1005
        ! text 0.0=0.1.4 = -1007
        ! text 0.0=0.1<4 = -1007
        ! text 0.0=-0.1:4 = -1004
        ! text 0.0=0.-1:4 = -1006
        ! text 0.0=0.1:-4 = -1008
        """);
    edge("A, B, K are a digit each (K 9: a LABEL; 8: MISSING, without an N)", """
        make(9, 9, 1)
        make(0, 4, 1)
        ! text /.0<41 = -1000
        ! text :.0<41 = -1000
        ! text a.0<41 = -1000
        ! text 00.0<41 = -1001
        ! text -0.0<41 = -1000
        ! text 0.0=/.0:4 = -1004
        ! text 0.0=:.0:4 = -1004
        ! text 0.0=00.0:4 = -1005
        ! text 0.0</1 = -1004
        ! text 0.0<:1 = -1004
        ! text 0.0<-1 = -1004
        ! text 9.0<80 = -1005
        ! text 9.0<8- = -1005
        text 9.0<90 = 1
        row 9 = l l0
        text 9.0<8;0.0<41 = 2
        row 9 = l -
        text 9.0<9-999999999;0.0=0.0:4 = 2
        row 9 = l l-999999999
        make(1, 9, 1)
        text 1.0=9.0:8 = 1
        row 1 = l l-999999999
        text 0.0=0.0:8 = 1
        ! text 9.0<9 = -1005
        """);
    edge("V a digit 0 .. 8; I, J 1 or 2 digits", """
        make(0, 4, 32)
        make(1, 0, 1)
        text 1.0=1.0:0 = 1
        text 0.0=0.0:8 = 1
        ! text 0.0=0.0:9 = -1008
        ! text 0.0=0.0:/ = -1008
        ! text 0.0=0.0:44 = -1009
        ! text 0.<41 = -1002
        ! text 0.=0.0:4 = -1002
        ! text 0.000<41 = -1004
        ! text 0.000=0.0:4 = -1004
        ! text 0.0=0.:4 = -1006
        ! text 0.0=0.000:4 = -1008
        ! text 0.0: = -1003
        text 0.31<41;0.00=0.31:4;0.01=0.00:4;0.9=0.09:4 = 4
        ! text 0.32<41 = -100 at 0 1 PLACE
        ! text 0.99<41 = -100 at 0 1 PLACE
        ! text 0.0=0.32:4 = -100 at 0 0 PLACE
        """);
    edge("N perhaps -, and 1 to 9 digits", """
        make(0, 4, 4)
        text 0.0<40;0.1<4-0;0.2<4999999999;0.3<4-999999999 = 4
        row 0 = i 0 0 999999999 -999999999
        text 0.0<4000000001;0.1<4-00;0.2<4007 = 3
        row 0 = i 1 0 7 -999999999
        ! text 0.0<4 = -1005
        ! text 0.0<4- = -1006
        ! text 0.0<4; = -1005
        ! text 0.0<4-; = -1006
        ! text 0.0<4+1 = -1005
        ! text 0.0<4--1 = -1006
        ! text 0.0<41- = -1006
        ! text 0.0<4: = -1005
        ! text 0.0<4/ = -1005
        ! text 0.0<41: = -1006
        ! text 0.0<41/ = -1006
        ! text 0.0<41234567890 = -1014
        ! text 0.0<4-1234567890 = -1015
        make(1, 8, 3)
        text 1.0<6-0;1.1<7-1;1.2<0-0 = 3
        row 1 = o 0 -4616189618054758400 0
        """);
    edge("The FAULT: the place of the first byte with which none begins so (the end of THE TAPE, if it ends too early)", """
        make(0, 4, 1)
        ! text  = -1000
        ! text x = -1000
        ! text 0.0<41;x = -1007
        ! text 0.0<41;0.0<41;0.0<4 = -1019
        ! text 0.0<41;0.0<41;0.0<4x = -1019
        ! text 0.0=0.0:4; = -1010
        119 * feed(48)
        feed(48) = 120
        run() = -1001
        """);
    edge("The FAULT: .. (the end of THE TAPE, if it ends too early), at its 120th byte", """
        make(8, 8, 1)
        text 8.0<8;8.0<8;8.0<8;8.0<8;8.0<8;8.0<8;8.0<8;8.0<8;8.0<8;8.0<8;8.0<8;8.0<8;8.0<8;8.0<8;8.0<8;8.0<8;8.0<8;8.0<8;8.0<8;8.0<8; = -1120
        count(4) = 0
        text 8.0<8;8.0<8;8.0<8;8.0<8;8.0<8;8.0<8;8.0<8;8.0<8;8.0<8;8.0<8;8.0<8;8.0<8;8.0<8;8.0<8;8.0<8;8.0<8;8.0<8;8.0<8;8.0<8;8.0<8; = -1120
        count(6) = 0
        """);
    edge("LINES are done one behind the other, as a MOVE (side 0 READ, 1 PUT or BOXED)", """
        make(0, 4, 3)
        make(1, 8, 3)
        text 0.0<47;0.1=0.0:4;1.2=0.1:8 = 3
        row 1 = o - - 7
        undo() = 3
        row 0 = i 0 0 0
        ! text 0.0<47;0.1=2.0:4 = -101 at 1 0 NOTHING
        ! text 0.0=1.0:4 = -100 at 0 0 KIND
        ! text 0.0=1.0:8 = -100 at 0 1 KIND
        ! text 1.0=0.0:4 = -100 at 0 1 KIND
        ! text 2.0<8 = -100 at 0 1 NOTHING
        ! text 0.3<8 = -100 at 0 1 KIND
        ! text 0.0<47;0.1=0.0:5 = -101 at 1 1 KIND
        ! text 0.0<47;0.3=0.0:5 = -101 at 1 1 PLACE
        ! text 0.0<47;0.3=0.3:5 = -101 at 1 0 PLACE
        """);
    edge("THE IMAGE: SLOTS with their ROWS (those held by several are so again) and CELLS, WINDOWS", """
        make(0, 4, 2)
        same(9, 0)
        make(1, 4, 2)
        thing(2, 0, -5)
        thing(3, 1, 0)
        box(0, 1, 4, 6)
        window(5, 9, -9, -3, 32, 7)
        image() = 2
        write(9, 1, 4, 7)
        same(1, 0)
        make(0, 5, 2)
        thing(2, -1, 0)
        make(3, 0, 0)
        make(4, 0, 0)
        window(5, 0, 0, 0, 0, 0)
        back() = 2
        of(0, 2) = 2
        of(1, 2) = 1
        row 9 = i 0 6
        of(2, 0) = 10
        digest(2) = 6784
        of(3, 0) = 11
        of(4, 0) = -1
        windowOf(5, 0) = 9
        windowOf(5, 1) = -9
        windowOf(5, 2) = -3
        windowOf(5, 3) = 32
        windowOf(5, 4) = 7
        write(0, 0, 4, 8)
        row 9 = i 8 6
        back() = 2
        row 9 = i 0 6
        """);
    edge("Laid back, JOURNAL is empty, nothing is TOUCHED", """
        make(0, 4, 2)
        3 * write(0, 0, 4, 1)
        undo()
        image()
        count(4) = 2
        of(0, 3) = 1
        back()
        count(4) = 0
        count(5) = 0
        ! undo() = STATE
        ! redo() = STATE
        of(0, 3) = 0
        of(0, 4) = ABSENT
        count(8) = 0
        ! act(0, 0) = NONE
        write(0, 1, 4, 1)
        count(4) = 1
        of(0, 4) = 1
        """);
  }

  private static void answers() {
    in("Terms, Answers");
    edge("NONE (-1) no such number; BAD (-2) a number is not as told; .. the first that a call's words name", """
        scene
        ! make(10, 10, -1) = -1
        ! make(0, 10, -1) = -2
        ! make(0, 4, -1) = -14
        ! thing(10, 2, 10) = -1
        ! thing(0, 2, 10) = -2
        ! of(1, 5) = -1
        ! of(1, 4) = -11
        ! read(1, 99, 9) = -1
        ! read(1, 99, 0) = -11
        ! real(1, 99, 5, 1, 0) = -1
        ! real(1, 99, 6, 1, 0) = -2
        ! real(1, 99, 6, 1, 1) = -11
        ! box(1, 99, 11, 10) = -1
        ! box(1, 99, 10, 10) = -2
        ! box(1, 99, 10, 9) = -11
        ! window(6, 0, 41, 4, 33, 9) = -1
        ! window(0, 0, 41, 4, 33, 9) = -2
        ! least(1, -1) = -1
        ! least(1, 0) = -2
        ! least(3, 9) = -13
        ! least(0, 9) = -5
        ! find(0, -1, 10, 10) = -1
        ! find(0, 0, 10, 10) = -2
        ! fill(4, 11, 10) = -1
        ! fill(4, 10, 10) = -2
        ! takes(1, 11) = -1
        ! takes(1, 10) = -11
        ! exact(2, 8) = -1
        ! exact(2, 7) = -12
        ! alike(2, 10) = -1
        ! alike(2, 1) = -11
        ! alike(2, 0) = -12
        ! feed(128) = -2
        """);
    edge("STATE (-3) as told; FULL (-4); .. NO (Long.MIN_VALUE) where longs are told", """
        ! stop(3) = -1
        ! stop(2) = -3
        ! undo() = -3
        ! redo() = -3
        ! back() = -3
        ! latch(3) = LEAST
        ! sum(6) = LEAST
        ! digest(10) = LEAST
        120 * feed(59)
        ! feed(59) = -4
        ! feed(0) = -2
        """);
  }

  public static void main(String[] args) {
    slotsAndRows();
    thingsAndBoxes();
    views();
    readings();
    boxings();
    valuesAndLikeness();
    windows();
    moves();
    journal();
    thoughts();
    texts();
    answers();
    finish();
  }
}
