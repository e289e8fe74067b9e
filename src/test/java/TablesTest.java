/** Promises 14 to 17: cells, the lines that they lead back to, what is next, and quarrels. */
public final class TablesTest {
  private static final Check CHECK = new Check();

  public static void main(String[] args) {
    promise14Cell();
    promise14SecondDeeds();
    promise14Weighted();
    promise14NoSuchCell();
    promise15Lead();
    promise16Next();
    promise17Quarrels();
    promise17NoSuchHouse();
    CHECK.end("TablesTest");
  }

  /** Two diaries; words 1 and 2 have codes 1 and 2. */
  private static DayDiary twoDiaries() {
    DayDiary x = new DayDiary();
    x.diary(0, 0, 0, 0);
    x.diary(0, 1, 5, 0);
    x.line(0, 0, 9, 1, 0, 0, 0);
    x.line(0, 10, 14, 2, 1, 0, 0);
    x.line(0, 20, 22, 1, 1, 0, 0);
    x.line(0, 25, 25, 1, 2, 0, 0);
    x.line(1, 0, 0, 3, 1, 0, 0);
    x.line(1, 1, 100, 1, 3, 0, 0);
    x.line(1, 111, 143, 1, 0, 0, 0);
    CHECK.good(x, "code 1 when word 1; code 2 when word 2; mend 10;");
    return x;
  }

  private static void promise14Cell() {
    DayDiary x = twoDiaries();
    int[][] due = {{1, 147, 9, 153, 12}, {2, 5, 1, 6, 0}, {3, 0, 0, 0, 0}, {0, 0, 0, 0, 0}};
    for (int[] d : due) {
      for (int sort = 0; sort < 4; sort++) {
        CHECK.due("cell(" + d[0] + ", " + sort + ", false)", x.cell(d[0], sort, false),
            d[sort + 1]);
      }
    }
    x.choose(-1);
    for (int sort = 0; sort < 4; sort++) {
      CHECK.due("no text: cell(1, " + sort + ", false)", x.cell(1, sort, false), 0);
    }
  }

  private static void promise14SecondDeeds() {
    DayDiary x = new DayDiary();
    x.diary(0, 0, 0, 0);
    x.line(0, 0, 0, 1, 0, 0, 0);
    x.line(0, 1, 4, 2, 7, 3, 6);
    x.line(0, 5, 12, 9, 2, 0, 0);
    CHECK.good(x, "code 1 when word 1; code 2 when second 7;"
        + "code 3 when word 7 and ahead = 1 and next 9 and place = 3 and with = 2 and from = 1;"
        + "code 4 when ahead = 2 and word 2; code 5 when ahead = 3;");
    CHECK.due("first deeds of code 2", x.cell(2, 0, false), 4);
    CHECK.due("no word is second then", x.cell(2, 1, false), 0);
    CHECK.good(x, "code 6 when second 1; code 7 when 1;");
    CHECK.due("none at all", x.cell(6, 1, false), 0);
    x.choose(0);
    CHECK.due("all else as it is", x.cell(3, 1, false), 4);
    CHECK.due("the line ahead keeps its code", x.cell(4, 1, false), 8);
    CHECK.due("and is not coded as its second", x.cell(5, 1, false), 0);
    CHECK.good(x, "code 1 when next 2; code 2 when next 7; code 3 when 1;");
    CHECK.due("the next line keeps its word", x.cell(2, 2, false), 0);
    CHECK.good(x, "code 8 when 1;");
    CHECK.due("lines without a second word", x.cell(8, 1, false), 12);
    CHECK.due("each line once", x.cell(8, 2, false), 13);
  }

  private static void promise14Weighted() {
    DayDiary x = twoDiaries();
    CHECK.due("cell(1, 0, true)", x.cell(1, 0, true), 147000);
    x.diary(0, 2, 0, 1);
    x.known(0, 1);
    x.known(1, 2);
    x.known(2, 1);
    x.known(3, 1);
    x.rounds(1);
    // days: 500, 2000, 500; ages: 200 and 800 of 2500, 1000
    CHECK.due("weight(0)", x.weight(0), 200);
    CHECK.due("weight(1)", x.weight(1), 800);
    CHECK.due("cut at the end", x.cell(1, 0, true), (14 * 200 + 133 * 800) / 1000);
    CHECK.due("cut at the end, sort 3", x.cell(1, 3, true), (2 * 200 + 10 * 800) / 1000);
    CHECK.due("below 1", x.cell(2, 1, true), 0);
    CHECK.due("plain", x.cell(1, 0, false), 147);
  }

  private static void promise14NoSuchCell() {
    DayDiary x = twoDiaries();
    int[][] wrong = {{-1, 0}, {50, 0}, {1, -1}, {1, 4}, {Integer.MIN_VALUE, 0},
        {1, Integer.MAX_VALUE}};
    for (int[] w : wrong) {
      CHECK.due("cell(" + w[0] + ", " + w[1] + ", false)", x.cell(w[0], w[1], false), -1);
      CHECK.due("cell(" + w[0] + ", " + w[1] + ", true)", x.cell(w[0], w[1], true), -1);
      CHECK.due("lead(" + w[0] + ", " + w[1] + ", 0)", x.lead(w[0], w[1], 0), -1);
    }
    CHECK.due("cell(49, 3, true)", x.cell(49, 3, true), 0);
  }

  private static void promise15Lead() {
    DayDiary x = twoDiaries();
    int[][] due = {{0, 2, 3, 101, 102}, {1, 2, 100}, {0, 1, 2, 3, 100, 101, 102}};
    for (int sort = 0; sort < due.length; sort++) {
      for (int i = 0; i < due[sort].length; i++) {
        CHECK.due("lead(1, " + sort + ", " + i + ")", x.lead(1, sort, i), due[sort][i]);
      }
      CHECK.due("lead behind the last", x.lead(1, sort, due[sort].length), -1);
      CHECK.due("lead(1, " + sort + ", -1)", x.lead(1, sort, -1), -1);
      CHECK.due("lead(1, " + sort + ", MAX)", x.lead(1, sort, Integer.MAX_VALUE), -1);
      CHECK.due("lead(1, " + sort + ", MIN)", x.lead(1, sort, Integer.MIN_VALUE), -1);
    }
    CHECK.due("lead(2, 1, 0)", x.lead(2, 1, 0), 3);
    CHECK.good(x, "code 0 when word 3; code 49 when word 2;");
    CHECK.due("lead(0, 0, 0)", x.lead(0, 0, 0), 100);
    CHECK.due("lead(49, 2, 1)", x.lead(49, 2, 1), 3);
    CHECK.due("lead(1, 3, 0)", x.lead(1, 3, 0), -1);
    x.choose(-1);
    CHECK.due("no text", x.lead(1, 0, 0), -1);
  }

  private static void promise16Next() {
    DayDiary x = twoDiaries();
    CHECK.due("next(1, 2)", x.next(1, 2), 1);
    CHECK.due("next(2, 1): a gap", x.next(2, 1), 0);
    CHECK.due("next(1, 1): gaps that are mended", x.next(1, 1), 2);
    CHECK.due("next(0, 0)", x.next(0, 0), 0);
    CHECK.good(x, "code 1 when word 1; code 2 when word 2; mend 9;");
    CHECK.due("one is too long", x.next(1, 1), 1);
    x.line(0, 17, 18, 1, 0, 0, 0);
    CHECK.due("a gap of one ten", x.next(1, 1), 2);
    CHECK.good(x, "code 1 when word 1; code 2 when word 2;");
    CHECK.due("none is mended", x.next(1, 1), 0);
    CHECK.good(x, "code 1 when 1;");
    CHECK.due("without gaps", x.next(1, 1), 2);
    int[][] wrong = {{50, 0}, {0, 50}, {-1, 0}, {0, -1}, {-1, -1},
        {Integer.MAX_VALUE, Integer.MIN_VALUE}};
    for (int[] w : wrong) {
      CHECK.due("next(" + w[0] + ", " + w[1] + ")", x.next(w[0], w[1]), -1);
    }
    x.choose(-1);
    CHECK.due("no text", x.next(1, 1), 0);
  }

  private static void promise17Quarrels() {
    DayDiary x = new DayDiary();
    x.diary(3, 0, 2, 0);
    x.diary(3, 1, 2, 0);
    x.diary(3, 7, 2, 0);
    x.diary(3, 1, 3, 0);
    x.diary(4, 1, 2, 0);
    x.line(3, 0, 143, 1, 0, 0, 0);
    x.line(4, 0, 143, 1, 0, 0, 0);
    x.line(0, 10, 19, 1, 0, 0, 0b10);
    CHECK.due("q has no line there", x.quarrels(3, 2), 0);
    x.line(1, 5, 12, 1, 0, 0, 0);
    CHECK.due("q does not say so", x.quarrels(3, 2), 3);
    x.line(1, 13, 15, 1, 0, 0, 0b10000001);
    CHECK.due("q says so", x.quarrels(3, 2), 3);
    x.line(1, 16, 30, 1, 0, 0, 0b10000000);
    CHECK.due("q says so of another", x.quarrels(3, 2), 7);
    x.line(2, 0, 143, 1, 0, 0, 0b1111110);
    CHECK.due("of p 7, who says so of q 1; q 1 not from 5 to 12", x.quarrels(3, 2), 15);
    x.line(0, 20, 20, 1, 0, 0, 0b10000000);
    CHECK.due("of p 0 and q 7", x.quarrels(3, 2), 16);
    x.line(1, 40, 49, 1, 0, 0, 0b10000001);
    x.line(0, 45, 46, 1, 0, 0, 0);
    CHECK.due("of p 1 and q 0, the first diary", x.quarrels(3, 2), 18);
    CHECK.due("another day", x.quarrels(3, 3), 0);
    CHECK.due("another house", x.quarrels(4, 2), 0);
  }

  private static void promise17NoSuchHouse() {
    DayDiary x = new DayDiary();
    CHECK.due("quarrels(0, 0)", x.quarrels(0, 0), 0);
    CHECK.due("quarrels(9, 6)", x.quarrels(9, 6), 0);
    int[][] wrong = {{10, 0}, {-1, 0}, {0, 7}, {0, -1}, {Integer.MIN_VALUE, Integer.MAX_VALUE}};
    for (int[] w : wrong) {
      CHECK.due("quarrels(" + w[0] + ", " + w[1] + ")", x.quarrels(w[0], w[1]), -1);
    }
  }
}
