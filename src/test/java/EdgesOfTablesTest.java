import java.util.function.Consumer;

/** The boundary cases of promises 14 to 17: cells, the lines they lead back to, next, quarrels. */
public final class EdgesOfTablesTest {
  private static final Check CHECK = new Check();
  private static final Twins TWINS = new Twins(CHECK);
  private static final int MIN = Integer.MIN_VALUE;
  private static final int MAX = Integer.MAX_VALUE;

  public static void main(String[] args) {
    promise14CodesAndSorts();
    promise14ByTheTextInForce();
    promise14FirstDeeds();
    promise14SecondDeeds();
    promise14NoneBeingSecond();
    promise14AllElseAsItIs();
    promise14WithoutASecondWord();
    promise14EachOnce();
    promise14GapsMended();
    promise14CutAtTheEnd();
    promise14AsMuchAsThereMayBe();
    promise14RefusedChangesNothing();
    promise15Sorts();
    promise15TheIthLine();
    promise15ByDiariesThenLines();
    promise15HundredTimesDiary();
    promise15RefusedChangesNothing();
    promise16Codes();
    promise16RightAhead();
    promise16NoGapBetween();
    promise16AsMuchAsThereMayBe();
    promise17HousesAndDays();
    promise17NothingThere();
    promise17HasALineThere();
    promise17DoesNotSaySo();
    promise17OfThatHouseAndDay();
    promise17EachTenOfEachPair();
    CHECK.end("EdgesOfTablesTest");
  }

  private static DayDiary oneDiary() {
    DayDiary x = new DayDiary();
    x.diary(0, 0, 0, 0);
    return x;
  }

  private static void dueCells(DayDiary x, int code, int... due) {
    for (int sort = 0; sort < due.length; sort++) {
      CHECK.due("cell(" + code + ", " + sort + ", false)", x.cell(code, sort, false), due[sort]);
    }
  }

  /** The lines of a cell, and NONE behind the last of them. */
  private static void dueLeads(DayDiary x, int code, int sort, int... due) {
    for (int i = 0; i < due.length; i++) {
      CHECK.due("lead(" + code + ", " + sort + ", " + i + ")", x.lead(code, sort, i), due[i]);
    }
    CHECK.due("lead(" + code + ", " + sort + ", behind the last)",
        x.lead(code, sort, due.length), -1);
  }

  private static void promise14CodesAndSorts() {
    CHECK.sentence(14, "NONE: no such CODE (0 .. 49), sort.");
    for (int code = 0; code < 50; code++) {
      DayDiary x = oneDiary();
      x.line(0, 0, 2, 1, 2, 0, 0);
      x.line(0, 5, 5, 1, 0, 0, 0);
      CHECK.good(x, "code " + code + " when 1; mend 2;");
      dueCells(x, code, 4, 3, 4, 2);
      dueCells(x, (code + 1) % 50, 0, 0, 0, 0);
    }
    DayDiary x = oneDiary();
    for (boolean weighted : new boolean[] {false, true}) {
      CHECK.edges("cell(code, 0)", 0, 49, code -> x.cell(code, 0, weighted) == 0);
      CHECK.edges("cell(code, 3)", 0, 49, code -> x.cell(code, 3, weighted) == 0);
    }
    DayDiary y = new DayDiary();
    for (boolean weighted : new boolean[] {false, true}) {
      CHECK.edges("no diary: cell(49, sort)", 0, 3, sort -> y.cell(49, sort, weighted) == 0);
    }
  }

  private static void promise14ByTheTextInForce() {
    CHECK.sentence(14, "TABLES, by the text in force.");
    DayDiary x = oneDiary();
    x.line(0, 0, 0, 1, 1, 0, 0);
    x.line(0, 2, 2, 1, 1, 0, 0);
    dueCells(x, 0, 0, 0, 0, 0);
    dueLeads(x, 0, 2);
    for (int i = 0; i < 8; i++) {
      CHECK.good(x, "code " + i + " when 1; mend 1;");
    }
    for (int i = -1; i < 8; i++) {
      x.choose(i);
      for (int code = 0; code < 8; code++) {
        int lines = code == i ? 2 : 0;
        dueCells(x, code, lines, lines, lines, lines / 2);
        CHECK.due("text " + i + ": next", x.next(code, code), lines / 2);
      }
    }
  }

  private static void promise14FirstDeeds() {
    CHECK.sentence(14, "0 TENS of lines of that CODE as first deed");
    DayDiary x = oneDiary();
    CHECK.good(x, "code 1 when word 1;");
    dueCells(x, 1, 0);
    x.line(0, 0, 0, 1, 0, 0, 0);
    dueCells(x, 1, 1);
    x.line(0, 143, 143, 1, 0, 0, 0);
    dueCells(x, 1, 2);
    x.line(0, 70, 70, 2, 1, 0, 0);
    dueCells(x, 1, 2);
    DayDiary y = oneDiary();
    CHECK.good(y, "code 1 when word 1;");
    y.line(0, 0, 143, 1, 0, 0, 0);
    dueCells(y, 1, 144, 0, 144, 0);
  }

  private static void promise14SecondDeeds() {
    CHECK.sentence(14, "1 TENS of lines whose second WORD, put in the place of the first one");
    DayDiary x = oneDiary();
    x.below(200, 1);
    CHECK.good(x, "code 1 when word 1;");
    x.line(0, 0, 0, 2, 1, 0, 0);
    dueCells(x, 1, 0, 1, 1, 0);
    x.line(0, 1, 3, 2, 200, 0, 0);
    dueCells(x, 1, 0, 4, 4, 0);
    x.line(0, 4, 10, 1, 2, 0, 0);
    dueCells(x, 1, 7, 4, 11, 0);
    x.line(0, 11, 143, 1, 1, 0, 0);
    dueCells(x, 1, 140, 137, 144, 0);
  }

  private static void promise14NoneBeingSecond() {
    CHECK.sentence(14, "none being second");
    DayDiary x = oneDiary();
    x.line(0, 0, 9, 1, 2, 0, 0);
    CHECK.good(x, "code 1 when second 1; code 2 when second 2; code 3 when word 1;"
        + "code 4 when word 2;");
    dueCells(x, 1, 0, 0, 0);
    dueCells(x, 2, 10, 0, 10);
    dueCells(x, 3, 0, 0, 0);
    dueCells(x, 4, 0, 10, 10);
  }

  private static void promise14AllElseAsItIs() {
    CHECK.sentence(14, "(all else of the line and of the lines about it as it is");
    DayDiary x = new DayDiary();
    x.diary(0, 0, 6, 2);
    x.line(0, 0, 9, 1, 4, 0, 0);
    x.line(0, 20, 24, 2, 5, 9, 6);
    x.line(0, 143, 143, 3, 6, 0, 0);
    String about = " and place = 9 and with = 2 and from = 20 and long = 5 and age = 2 and day = 6"
        + " and next 3 and ahead = 1;";
    CHECK.good(x, "code 1 when word 1; code 2 when word 5" + about + "code 3 when word 4;");
    dueCells(x, 2, 0, 5, 5);
    dueCells(x, 3, 0, 10, 10);
    CHECK.good(x, "code 1 when word 1; code 3 when word 4; code 5 when ahead = 3;"
        + "code 6 when next 6; code 7 when word 5 and ahead = 0 - 1;");
    dueCells(x, 5, 0, 0, 0);
    dueCells(x, 6, 0, 0, 0);
    dueCells(x, 7, 0, 0, 0);
    CHECK.good(x, "code 8 when word 2 and ahead < 0; code 9 when ahead = 8 and word 6;");
    dueCells(x, 9, 0, 1, 1);
  }

  private static void promise14WithoutASecondWord() {
    CHECK.sentence(14, "0 of lines without a second WORD)");
    DayDiary x = oneDiary();
    x.line(0, 0, 9, 1, 0, 0, 0);
    x.line(0, 10, 12, 2, 0, 0, 0);
    CHECK.good(x, "code 0 when 1;");
    dueCells(x, 0, 13, 0, 13, 0);
    dueLeads(x, 0, 1);
    x.line(0, 13, 13, 1, 1, 0, 0);
    dueCells(x, 0, 14, 1, 14, 0);
    dueLeads(x, 0, 1, 2);
  }

  private static void promise14EachOnce() {
    CHECK.sentence(14, "2 TENS of lines of which either is so, each once");
    DayDiary x = oneDiary();
    x.line(0, 0, 0, 1, 0, 0, 0);
    x.line(0, 1, 2, 1, 1, 0, 0);
    x.line(0, 3, 6, 1, 2, 0, 0);
    x.line(0, 7, 14, 2, 1, 0, 0);
    x.line(0, 15, 30, 2, 2, 0, 0);
    x.line(0, 31, 62, 2, 0, 0, 0);
    CHECK.good(x, "code 0 when word 1;");
    dueCells(x, 0, 1 + 2 + 4, 2 + 8, 1 + 2 + 4 + 8, 0);
    dueLeads(x, 0, 0, 0, 1, 2);
    dueLeads(x, 0, 1, 1, 3);
    dueLeads(x, 0, 2, 0, 1, 2, 3);
  }

  private static void promise14GapsMended() {
    CHECK.sentence(14, "3 TENS of GAPS MENDED");
    DayDiary x = oneDiary();
    CHECK.good(x, "code 0 when word 1; code 49 when word 2; mend 3;");
    dueCells(x, 0, 0, 0, 0, 0);
    x.line(0, 1, 1, 1, 0, 0, 0);
    dueCells(x, 0, 1, 0, 1, 0);
    x.line(0, 5, 5, 1, 0, 0, 0);
    dueCells(x, 0, 2, 0, 2, 3);
    x.line(0, 10, 10, 1, 0, 0, 0);
    dueCells(x, 0, 3, 0, 3, 3);
    x.line(0, 12, 12, 2, 1, 0, 0);
    x.line(0, 14, 14, 2, 1, 0, 0);
    x.line(0, 16, 16, 3, 0, 0, 0);
    x.line(0, 18, 18, 3, 0, 0, 0);
    dueCells(x, 0, 3, 2, 5, 3);
    dueCells(x, 49, 2, 0, 2, 1);
    for (int code = 1; code < 49; code++) {
      CHECK.due("cell(" + code + ", 3, false)", x.cell(code, 3, false), 0);
    }
  }

  private static void promise14CutAtTheEnd() {
    CHECK.sentence(14, "times the DIARIES' WEIGHTS / 1000, summed, cut at the end");
    DayDiary x = new DayDiary();
    for (int i = 0; i < 3; i++) {
      x.diary(i, 0, 0, 0);
      x.line(i, 0, 0, 1, 2, 0, 0);
      x.line(i, 2, 2, 1, 2, 0, 0);
    }
    CHECK.good(x, "code 0 when word 1; code 1 when word 2; mend 1;");
    CHECK.due("at first", x.cell(0, 0, true), 6000);
    x.known(0, 2);
    x.known(2, 2);
    x.rounds(1);
    // three weights of 666: 2 * 666 * 3 is 3996, and 666 * 3 is 1998
    CHECK.due("weight(2)", x.weight(2), 666);
    CHECK.due("cell(0, 0, true)", x.cell(0, 0, true), 3);
    CHECK.due("cell(1, 1, true)", x.cell(1, 1, true), 3);
    CHECK.due("cell(1, 2, true)", x.cell(1, 2, true), 3);
    CHECK.due("cell(0, 3, true)", x.cell(0, 3, true), 1);
    CHECK.due("cell(0, 0, false)", x.cell(0, 0, false), 6);
    CHECK.due("cell(0, 3, false)", x.cell(0, 3, false), 3);
    CHECK.due("cell(2, 0, true)", x.cell(2, 0, true), 0);
    x.known(0, 1);
    x.known(2, 1);
    x.rounds(1);
    CHECK.due("999 is cut to 0", x.cell(0, 3, true), 0);
    CHECK.due("1998 is cut to 1", x.cell(0, 0, true), 1);
  }

  private static void promise14AsMuchAsThereMayBe() {
    CHECK.sentence(14, "A CELL (sort 0 .. 3), weighted or plain");
    DayDiary x = new DayDiary();
    for (int d = 0; d < 40; d++) {
      x.diary(d % 10, d / 10, 0, 0);
      x.line(d, 0, 143, 1, 1, 0, 0);
    }
    CHECK.good(x, "code 49 when 1;");
    dueCells(x, 49, 5760, 5760, 5760, 0);
    CHECK.due("cell(49, 2, true)", x.cell(49, 2, true), 5760000);
    DayDiary y = new DayDiary();
    for (int d = 0; d < 40; d++) {
      y.diary(d % 10, d / 10, 0, 0);
      y.line(d, 0, 0, 1, 1, 0, 0);
      y.line(d, 143, 143, 1, 1, 0, 0);
    }
    CHECK.good(y, "code 49 when 1; mend 142;");
    dueCells(y, 49, 80, 80, 80, 5680);
    CHECK.due("cell(49, 3, true)", y.cell(49, 3, true), 5680000);
    CHECK.due("each gap between two of its lines", y.next(49, 49), 40);
  }

  private static void promise14RefusedChangesNothing() {
    CHECK.sentence(14, "NONE: no such CODE (0 .. 49), sort.");
    int[][] wrong = {{-1, 0}, {50, 0}, {0, -1}, {0, 4}, {-1, 3}, {50, 3}, {MIN, MIN}, {MAX, MAX}};
    for (int[] n : wrong) {
      for (boolean weighted : new boolean[] {false, true}) {
        TWINS.refused("cell(" + n[0] + ", " + n[1] + ", " + weighted + ")", Twins::madeWithTape,
            x -> x.cell(n[0], n[1], weighted), -1);
      }
    }
    TWINS.refused("cell(0, 2, false)", Twins::madeWithTape, x -> x.cell(0, 2, false),
        28 + 61 + 144 + 1);
  }

  private static void promise15Sorts() {
    CHECK.sentence(15, "The i-th line that is in a CELL of sort 0 .. 2");
    DayDiary x = oneDiary();
    x.line(0, 0, 0, 1, 1, 0, 0);
    x.line(0, 2, 2, 1, 1, 0, 0);
    CHECK.good(x, "code 0 when 1; mend 1;");
    CHECK.due("there is a mended ten", x.cell(0, 3, false), 1);
    CHECK.edges("lead(0, sort, 0)", 0, 2, sort -> x.lead(0, sort, 0) == 0);
    CHECK.edges("lead(0, sort, 1)", 0, 2, sort -> x.lead(0, sort, 1) == 1);
    for (int code = 0; code < 50; code++) {
      DayDiary y = oneDiary();
      y.line(0, 0, 0, 1, 1, 0, 0);
      CHECK.good(y, "code " + code + " when 1;");
      CHECK.edges("lead(code, 2, 0)", code, code, n -> y.lead(n, 2, 0) == 0);
    }
    DayDiary without = oneDiary();
    without.line(0, 0, 0, 1, 1, 0, 0);
    CHECK.good(without, "code 1 when 0;");
    for (int sort = 0; sort < 3; sort++) {
      CHECK.due("lines without a code are in no cell", without.lead(-1, sort, 0), -1);
    }
  }

  private static void promise15TheIthLine() {
    CHECK.sentence(15, "The i-th line that is in a CELL");
    DayDiary x = oneDiary();
    CHECK.good(x, "code 7 when word 1;");
    dueLeads(x, 7, 0);
    for (int k = 0; k < 24; k++) {
      x.line(0, k, k, 1 + k % 2, 1 + k % 3, 0, 0);
    }
    CHECK.edges("lead(7, 0, i)", 0, 11, i -> x.lead(7, 0, i) == 2 * i);
    CHECK.edges("lead(7, 1, i)", 0, 7, i -> x.lead(7, 1, i) == 3 * i);
    dueLeads(x, 7, 2, 0, 2, 3, 4, 6, 8, 9, 10, 12, 14, 15, 16, 18, 20, 21, 22);
    for (int i : new int[] {-1, MIN, MAX, 16}) {
      CHECK.due("lead(7, 2, " + i + ")", x.lead(7, 2, i), -1);
    }
  }

  private static void promise15ByDiariesThenLines() {
    CHECK.sentence(15, "by DIARIES, then by lines");
    DayDiary x = new DayDiary();
    x.diary(9, 7, 6, 2);
    x.diary(0, 0, 0, 0);
    x.diary(5, 5, 5, 1);
    x.line(2, 100, 100, 1, 0, 0, 0);
    x.line(1, 143, 143, 1, 0, 0, 0);
    x.line(1, 0, 0, 1, 0, 0, 0);
    x.line(2, 1, 1, 1, 0, 0, 0);
    x.line(2, 50, 50, 2, 0, 0, 0);
    CHECK.good(x, "code 7 when word 1;");
    dueLeads(x, 7, 0, 100, 101, 200, 202);
    x.line(0, 143, 143, 1, 0, 0, 0);
    dueLeads(x, 7, 0, 0, 100, 101, 200, 202);
  }

  private static void promise15HundredTimesDiary() {
    CHECK.sentence(15, "100 * DIARY + line");
    DayDiary x = new DayDiary();
    for (int d = 0; d < 40; d++) {
      x.diary(d % 10, d / 10, 0, 0);
    }
    for (int k = 0; k < 24; k++) {
      x.line(39, 143 - k, 143 - k, 1, 0, 0, 0);
    }
    CHECK.good(x, "code 7 when 1;");
    for (int k = 0; k < 24; k++) {
      CHECK.due("lead(7, 0, " + k + ")", x.lead(7, 0, k), 3900 + k);
    }
    CHECK.due("behind the greatest", x.lead(7, 0, 24), -1);
    x.line(0, 0, 0, 1, 0, 0, 0);
    CHECK.due("the least", x.lead(7, 0, 0), 0);
    CHECK.due("the greatest", x.lead(7, 0, 24), 3923);
  }

  private static void promise15RefusedChangesNothing() {
    CHECK.sentence(15, "NONE.");
    int[][] wrong = {{-1, 0, 0}, {50, 0, 0}, {0, -1, 0}, {0, 3, 0}, {0, 4, 0}, {0, 0, -1},
        {0, 0, 5}, {1, 0, 2}, {MIN, MIN, MIN}, {MAX, MAX, MAX}, {0, 0, MAX}, {0, 2, MIN}};
    for (int[] n : wrong) {
      TWINS.refused("lead(" + n[0] + ", " + n[1] + ", " + n[2] + ")", Twins::madeWithTape,
          x -> x.lead(n[0], n[1], n[2]), -1);
    }
    TWINS.refused("lead(0, 0, 2)", Twins::madeWithTape, x -> x.lead(0, 0, 2), 100);
  }

  private static void promise16Codes() {
    CHECK.sentence(16, "NONE: no such CODES.");
    DayDiary x = oneDiary();
    CHECK.edges("next(a, 0)", 0, 49, a -> x.next(a, 0) == 0);
    CHECK.edges("next(49, b)", 0, 49, b -> x.next(49, b) == 0);
    for (int[] n : new int[][] {{-1, 0}, {0, -1}, {50, 0}, {0, 50}, {-1, -1}, {50, 50}, {MIN, 0},
        {0, MAX}}) {
      TWINS.refused("next(" + n[0] + ", " + n[1] + ")", Twins::madeWithTape,
          y -> y.next(n[0], n[1]), -1);
    }
    TWINS.refused("next(0, 0)", Twins::madeWithTape, y -> y.next(0, 0), 3);
    DayDiary y = oneDiary();
    y.line(0, 0, 0, 1, 0, 0, 0);
    y.line(0, 1, 1, 1, 0, 0, 0);
    CHECK.good(y, "code 1 when 0;");
    CHECK.due("lines without a code", y.next(-1, -1), -1);
    for (int code = 0; code < 50; code++) {
      DayDiary z = oneDiary();
      z.line(0, 0, 0, 1, 0, 0, 0);
      z.line(0, 1, 1, 2, 0, 0, 0);
      int other = (code + 1) % 50;
      CHECK.good(z, "code " + code + " when word 1; code " + other + " when 1;");
      CHECK.due("next(" + code + ", " + other + ")", z.next(code, other), 1);
      CHECK.due("next(" + other + ", " + code + ")", z.next(other, code), 0);
      CHECK.due("next(" + code + ", " + code + ")", z.next(code, code), 0);
    }
  }

  private static void promise16RightAhead() {
    CHECK.sentence(16, "how many lines of CODE a stand right ahead of lines of CODE b");
    DayDiary x = oneDiary();
    CHECK.good(x, "code 1 when word 1; code 2 when word 2; mend 143;");
    CHECK.due("no line", x.next(1, 1), 0);
    x.line(0, 143, 143, 1, 0, 0, 0);
    CHECK.due("one line", x.next(1, 1), 0);
    x.diary(0, 1, 0, 0);
    x.line(1, 0, 0, 1, 0, 0, 0);
    CHECK.due("a line of another diary", x.next(1, 1), 0);
    x.line(0, 142, 142, 2, 0, 0, 0);
    x.line(0, 141, 141, 1, 0, 0, 0);
    CHECK.due("a line between", x.next(1, 1), 0);
    CHECK.due("next(1, 2)", x.next(1, 2), 1);
    CHECK.due("next(2, 1)", x.next(2, 1), 1);
    CHECK.due("next(2, 2)", x.next(2, 2), 0);
    x.line(0, 140, 140, 3, 0, 0, 0);
    x.line(0, 139, 139, 1, 0, 0, 0);
    CHECK.due("a line without a code between", x.next(1, 1), 0);
  }

  private static void promise16NoGapBetween() {
    CHECK.sentence(16, "no GAP that is not MENDED between");
    Consumer<DayDiary> made = x -> {
      x.diary(0, 0, 0, 0);
      x.line(0, 0, 0, 1, 0, 0, 0);
      x.line(0, 1, 1, 1, 0, 0, 0);
      x.line(0, 3, 3, 1, 0, 0, 0);
      x.line(0, 6, 6, 1, 0, 0, 0);
      x.line(0, 8, 8, 2, 0, 0, 0);
      x.line(0, 9, 9, 1, 0, 0, 0);
    };
    String[] texts = {"", "mend 1;", "mend 2;", "mend 143;"};
    for (int i = 0; i < texts.length; i++) {
      DayDiary x = new DayDiary();
      made.accept(x);
      CHECK.good(x, "code 1 when word 1; code 2 when word 2;" + texts[i]);
      CHECK.due("next(1, 1), " + texts[i], x.next(1, 1), Math.min(3, 1 + i));
      CHECK.due("next(1, 2), " + texts[i], x.next(1, 2), 0);
      CHECK.due("next(2, 1), " + texts[i], x.next(2, 1), 1);
    }
  }

  private static void promise16AsMuchAsThereMayBe() {
    CHECK.sentence(16, "how many lines of CODE a stand right ahead of lines of CODE b");
    DayDiary x = new DayDiary();
    for (int d = 0; d < 3; d++) {
      x.diary(d, 0, 0, 0);
      for (int k = 0; k < 24; k++) {
        x.line(d, 6 * k, 6 * k + 5, 1 + k % 2, 0, 0, 0);
      }
    }
    CHECK.good(x, "code 1 when word 1; code 2 when word 2;");
    CHECK.due("next(1, 2)", x.next(1, 2), 3 * 12);
    CHECK.due("next(2, 1)", x.next(2, 1), 3 * 11);
    CHECK.good(x, "code 0 when 1;");
    CHECK.due("next(0, 0)", x.next(0, 0), 3 * 23);
    CHECK.good(x, "");
    CHECK.due("no rule", x.next(0, 0), 0);
  }

  private static void promise17HousesAndDays() {
    CHECK.sentence(17, "NONE: no such house, day.");
    DayDiary x = new DayDiary();
    CHECK.edges("quarrels(house, 0)", 0, 9, house -> x.quarrels(house, 0) == 0);
    CHECK.edges("quarrels(9, day)", 0, 6, day -> x.quarrels(9, day) == 0);
    for (int[] n : new int[][] {{-1, 0}, {10, 0}, {0, -1}, {0, 7}, {10, 7}, {MIN, MIN}, {MAX, MAX}}) {
      TWINS.refused("quarrels(" + n[0] + ", " + n[1] + ")", Twins::madeWithTape,
          y -> y.quarrels(n[0], n[1]), -1);
    }
    // p 0 says so of q 1 in 0 .. 4, 16 .. 19 and 40 .. 49, where q 1 has lines that do not
    TWINS.refused("quarrels(0, 0)", Twins::madeWithTape, y -> y.quarrels(0, 0), 5 + 4 + 10);
    for (int house = 0; house < 10; house++) {
      DayDiary y = new DayDiary();
      for (int day = 0; day < 7; day++) {
        int first = y.diary(house, 0, day, 0);
        int second = y.diary(house, 7, day, 0);
        y.line(first, 0, day, 1, 0, 0, 128);
        y.line(second, 0, 143, 1, 0, 0, 0);
      }
      for (int day = 0; day < 7; day++) {
        CHECK.due("quarrels(" + house + ", " + day + ")", y.quarrels(house, day), day + 1);
        CHECK.due("another house", y.quarrels((house + 1) % 10, day), 0);
      }
    }
  }

  private static void promise17NothingThere() {
    CHECK.sentence(17, "the DIARY of one person p says that q was there");
    DayDiary x = new DayDiary();
    CHECK.due("no diary", x.quarrels(0, 0), 0);
    x.diary(0, 0, 0, 0);
    CHECK.due("no line", x.quarrels(0, 0), 0);
    x.line(0, 0, 143, 1, 0, 0, 254);
    CHECK.due("no diary of any q", x.quarrels(0, 0), 0);
    x.diary(0, 1, 0, 0);
    CHECK.due("no line of q", x.quarrels(0, 0), 0);
    x.line(1, 0, 143, 1, 0, 0, 1);
    CHECK.due("both say so", x.quarrels(0, 0), 0);
    x.diary(0, 2, 0, 0);
    x.line(2, 0, 143, 1, 0, 0, 0);
    CHECK.due("q 2 does not", x.quarrels(0, 0), 144);
    DayDiary y = new DayDiary();
    for (int p = 0; p < 8; p++) {
      y.diary(0, p, 0, 0);
      y.line(p, 0, 143, 1, 0, 0, 0);
    }
    CHECK.due("nobody says so", y.quarrels(0, 0), 0);
  }

  private static void promise17HasALineThere() {
    CHECK.sentence(17, "has a line there that does not say so of p");
    int[][] lines = {{0, 0}, {9, 9}, {10, 10}, {19, 19}, {20, 20}, {0, 9}, {0, 10}, {19, 143},
        {20, 143}, {12, 14}, {0, 143}, {143, 143}};
    for (int[] ab : lines) {
      DayDiary x = new DayDiary();
      x.diary(0, 0, 0, 0);
      x.diary(0, 1, 0, 0);
      x.line(0, 10, 19, 1, 0, 0, 2);
      x.line(1, ab[0], ab[1], 1, 0, 0, 0);
      int due = Math.max(0, Math.min(19, ab[1]) - Math.max(10, ab[0]) + 1);
      CHECK.due("10 to 19 against " + ab[0] + " to " + ab[1], x.quarrels(0, 0), due);
    }
    for (int ten : new int[] {0, 143}) {
      DayDiary x = new DayDiary();
      x.diary(0, 0, 0, 0);
      x.diary(0, 1, 0, 0);
      x.line(0, ten, ten, 1, 0, 0, 2);
      CHECK.due("a gap of q", x.quarrels(0, 0), 0);
      x.line(1, 0, 143, 1, 0, 0, 0);
      CHECK.due("ten " + ten, x.quarrels(0, 0), 1);
    }
    DayDiary x = new DayDiary();
    x.diary(0, 0, 0, 0);
    x.diary(0, 1, 0, 0);
    x.line(0, 5, 5, 1, 0, 0, 2);
    x.line(1, 4, 4, 1, 0, 0, 0);
    x.line(1, 6, 6, 1, 0, 0, 0);
    CHECK.good(x, "code 0 when 1; mend 143;");
    CHECK.due("a gap of q that is mended is no line", x.quarrels(0, 0), 0);
  }

  private static void promise17DoesNotSaySo() {
    CHECK.sentence(17, "does not say so of p");
    for (int p = 0; p < 8; p++) {
      for (int q = 0; q < 8; q++) {
        if (p == q) {
          continue;
        }
        int all = 255 - (1 << q);
        int[] who = {0, 1 << p, all, all - (1 << p)};
        for (int said : who) {
          DayDiary x = new DayDiary();
          x.diary(3, p, 4, 0);
          x.diary(3, q, 4, 0);
          x.line(0, 7, 8, 1, 0, 0, 1 << q);
          x.line(1, 0, 143, 1, 0, 0, said);
          // where q says so of p, but p has no line, nobody quarrels
          CHECK.due("p " + p + ", q " + q + ", who " + said, x.quarrels(3, 4),
              (said >> p & 1) == 1 ? 0 : 2);
        }
      }
    }
  }

  private static void promise17OfThatHouseAndDay() {
    CHECK.sentence(17, "q's DIARY of that house and day");
    DayDiary x = new DayDiary();
    x.diary(0, 0, 0, 0);
    x.diary(0, 1, 1, 0);
    x.diary(1, 1, 0, 0);
    x.diary(0, 0, 1, 0);
    x.line(0, 0, 143, 1, 0, 0, 254);
    x.line(1, 0, 143, 1, 0, 0, 0);
    x.line(2, 0, 143, 1, 0, 0, 0);
    CHECK.due("quarrels(0, 0)", x.quarrels(0, 0), 0);
    CHECK.due("quarrels(0, 1)", x.quarrels(0, 1), 0);
    CHECK.due("quarrels(1, 0)", x.quarrels(1, 0), 0);
    x.line(3, 0, 4, 1, 0, 0, 2);
    CHECK.due("quarrels(0, 1)", x.quarrels(0, 1), 5);
    CHECK.due("quarrels(0, 0)", x.quarrels(0, 0), 0);
  }

  private static void promise17EachTenOfEachPair() {
    CHECK.sentence(17, "each TEN of each such p, q");
    DayDiary x = new DayDiary();
    for (int p = 0; p < 8; p++) {
      x.diary(9, p, 6, 0);
      x.line(p, 0, 143, 1, 0, 0, 255 - ((2 << p) - 1));
    }
    CHECK.due("each says so of those above", x.quarrels(9, 6), 28 * 144);
    DayDiary y = new DayDiary();
    y.diary(0, 0, 0, 0);
    y.diary(0, 1, 0, 0);
    y.line(0, 0, 0, 1, 0, 0, 2);
    y.line(0, 1, 1, 1, 0, 0, 0);
    y.line(1, 0, 0, 1, 0, 0, 0);
    y.line(1, 1, 1, 1, 0, 0, 1);
    CHECK.due("of p, q and of q, p", y.quarrels(0, 0), 2);
    y.line(0, 2, 10, 1, 0, 0, 2);
    y.line(1, 2, 3, 1, 0, 0, 0);
    y.line(1, 5, 6, 1, 0, 0, 0);
    y.line(1, 8, 20, 1, 0, 0, 0);
    CHECK.due("one line against many", y.quarrels(0, 0), 2 + 2 + 2 + 3);
  }
}
