/** Promises 8 and 10: the codes of lines, and what a ten is. */
public final class CodesTest {
  private static final Check CHECK = new Check();

  public static void main(String[] args) {
    promise8NoSuchLine();
    promise8Parts();
    promise8SumsAndTests();
    promise8TheDeepestStack();
    promise8TheFirstRule();
    promise8Ahead();
    promise8FollowsEveryChange();
    promise10Ten();
    promise10Mending();
    CHECK.end("CodesTest");
  }

  /** A diary of age 2 on day 6; line 1 is the one that is asked about. */
  private static DayDiary threeLines() {
    DayDiary x = new DayDiary();
    x.below(30, 3);
    x.below(60, 6);
    x.below(90, 9);
    x.diary(4, 1, 6, 2);
    x.line(0, 100, 110, 90, 8, 0, 0);
    x.line(0, 0, 1, 20, 0, 0, 0);
    x.line(0, 40, 52, 30, 60, 7, 0b10110001);
    return x;
  }

  private static void value(String e, int due) {
    DayDiary x = threeLines();
    CHECK.good(x, "code 1 when (" + e + ") = " + (due < 0 ? "0 - " + -due : "" + due) + ";");
    CHECK.due(e + " is " + due, x.code(0, 1), 1);
  }

  private static void promise8NoSuchLine() {
    DayDiary x = threeLines();
    CHECK.due("without a text", x.code(0, 0), -1);
    CHECK.good(x, "code 0 when 1;");
    CHECK.due("code(0, 2)", x.code(0, 2), 0);
    CHECK.due("code(0, 3)", x.code(0, 3), -2);
    CHECK.due("code(0, -1)", x.code(0, -1), -2);
    CHECK.due("code(1, 0)", x.code(1, 0), -2);
    CHECK.due("code(-1, 0)", x.code(-1, 0), -2);
    CHECK.due("code(MAX, MIN)", x.code(Integer.MAX_VALUE, Integer.MIN_VALUE), -2);
  }

  private static void promise8Parts() {
    value("0", 0);
    value("9999", 9999);
    value("word 30", 1);
    value("word 3", 1);
    value("word 60", 0);
    value("word 1", 0);
    value("second 60", 1);
    value("second 6", 1);
    value("second 30", 0);
    value("next 90", 1);
    value("next 9", 1);
    value("next 8", 0);
    value("next 30", 0);
    value("place", 7);
    value("with", 4);
    value("from", 40);
    value("long", 13);
    value("age", 2);
    value("day", 6);
    DayDiary x = threeLines();
    CHECK.good(x, "code 1 when next 9; code 2 when next 3; code 3 when second 8;"
        + "code 4 when 1;");
    CHECK.due("the first line has a next one", x.code(0, 0), 2);
    CHECK.due("the last line has none", x.code(0, 2), 3);
    CHECK.good(x, "code 1 when second 200; code 2 when second 1;");
    CHECK.due("no second word is under none", x.code(0, 0), -1);
    CHECK.good(x, "code 1 when next 1; code 2 when next 200; code 3 when 1;");
    CHECK.due("no next word is under none", x.code(0, 2), 3);
  }

  private static void promise8SumsAndTests() {
    value("1 + 2 - 3 + 4", 4);
    value("10 - 3 - 4", 3);
    value("10 - (3 - 4)", 11);
    value("1 - 2", -1);
    value("2 < 3", 1);
    value("3 < 3", 0);
    value("3 = 3", 1);
    value("3 = 2 + 1", 1);
    value("2 + 1 < 2 + 2", 1);
    value("1 - 3 < 0", 1);
    value("5 and 7", 1);
    value("5 and 0", 0);
    value("0 and 5", 0);
    value("0 and 0", 0);
    value("1 - 2 and 3", 1);
    value("5 and 7 and 0", 0);
    value("5 and 7 and 9", 1);
    value("2 and 2 = 2", 1);
    value("(2 and 2) = 2", 0);
    value("1 < 2 and 2 < 1", 0);
    value("(1 < 2) + (3 < 4) + (5 = 5)", 3);
    value("(((7)))", 7);
    value("9999 + 9999 + 9999 - 9999 - 9999", 9999);
    value("9999 - 9999 - 9999", -9999);
    DayDiary x = threeLines();
    CHECK.good(x, "code 5 when 0 - 1;");
    CHECK.due("less than 0 is not 0", x.code(0, 0), 5);
    CHECK.good(x, "code 5 when 1 - 1;");
    CHECK.due("0 is", x.code(0, 0), -1);
  }

  private static void promise8TheDeepestStack() {
    String e = "4";
    for (int i = 0; i < 5; i++) {
      String inner = i == 0 ? e : "(" + e + ")";
      e = "1 and 1 < 1 + " + inner;
    }
    DayDiary x = threeLines();
    CHECK.good(x, "code 1 when " + e + ";");
    CHECK.due(e, x.code(0, 0), 1);
    CHECK.good(x, "code 1 when " + e.replace("4", "0") + ";");
    CHECK.due("the same with 0 inside", x.code(0, 0), -1);
  }

  private static void promise8TheFirstRule() {
    DayDiary x = threeLines();
    CHECK.good(x, "code 9 when place = 7; code 49 when from < 50; code 0 when 1;");
    CHECK.due("code(0, 0)", x.code(0, 0), 49);
    CHECK.due("code(0, 1)", x.code(0, 1), 9);
    CHECK.due("code(0, 2)", x.code(0, 2), 0);
    CHECK.good(x, "code 3 when 0; code 4 when 0;" + "code 5 when 0;".repeat(21) + "code 6 when 1;");
    CHECK.due("the 24th rule", x.code(0, 1), 6);
  }

  private static void promise8Ahead() {
    DayDiary x = threeLines();
    CHECK.good(x, "code 20 when ahead = 0 - 1 and word 20; code 21 when ahead = 20;");
    CHECK.due("code(0, 0)", x.code(0, 0), 20);
    CHECK.due("code(0, 1)", x.code(0, 1), 21);
    CHECK.due("code(0, 2)", x.code(0, 2), -1);
    CHECK.good(x, "code 20 when word 20 - 1; code 7 when ahead = 0 - 1;");
    CHECK.due("the line ahead has no code", x.code(0, 1), 20);
    CHECK.due("the first line", x.code(0, 0), 7);
  }

  private static void promise8FollowsEveryChange() {
    DayDiary x = threeLines();
    CHECK.good(x, "code 1 when next 5; code 2 when word 5; code 3 when ahead = 1;");
    CHECK.due("at first", x.code(0, 1), -1);
    x.below(50, 5);
    CHECK.due("a word was put below", x.code(0, 1), -1);
    x.line(0, 60, 60, 50, 0, 0, 0);
    CHECK.due("a line came behind", x.code(0, 1), 1);
    CHECK.due("it", x.code(0, 2), 2);
    CHECK.due("the last", x.code(0, 3), -1);
    x.below(50, 6);
    CHECK.due("its word was put elsewhere", x.code(0, 1), -1);
    x.below(50, 5);
    x.line(0, 55, 59, 1, 0, 0, 0);
    CHECK.due("a line came between", x.code(0, 1), -1);
    CHECK.due("which is the one ahead now", x.code(0, 2), 1);
    x.choose(-1);
    CHECK.due("no text", x.code(0, 2), -1);
    x.choose(0);
    CHECK.due("the text again", x.code(0, 2), 1);
  }

  private static void promise10Ten() {
    DayDiary x = threeLines();
    CHECK.due("ten(0, 0) without a text", x.ten(0, 0), -1);
    CHECK.good(x, "code 30 when word 30;");
    int[][] due = {{0, -1}, {1, -1}, {2, -2}, {39, -2}, {40, 30}, {52, 30}, {53, -2}, {99, -2},
        {100, -1}, {110, -1}, {111, -2}, {143, -2}, {144, -3}, {-1, -3},
        {Integer.MAX_VALUE, -3}, {Integer.MIN_VALUE, -3}};
    for (int[] d : due) {
      CHECK.due("ten(0, " + d[0] + ")", x.ten(0, d[0]), d[1]);
    }
    CHECK.due("ten(1, 0)", x.ten(1, 0), -3);
    CHECK.due("ten(-1, 0)", x.ten(-1, 0), -3);
    x.diary(0, 0, 0, 0);
    CHECK.due("of a diary without lines", x.ten(1, 143), -2);
  }

  private static void promise10Mending() {
    DayDiary x = new DayDiary();
    x.diary(0, 0, 0, 0);
    x.line(0, 3, 4, 1, 0, 0, 0);
    x.line(0, 8, 9, 1, 0, 0, 0);
    x.line(0, 14, 15, 1, 0, 0, 0);
    x.line(0, 17, 17, 2, 0, 0, 0);
    x.line(0, 19, 19, 3, 0, 0, 0);
    x.line(0, 21, 21, 3, 0, 0, 0);
    x.line(0, 22, 22, 3, 0, 0, 0);
    CHECK.good(x, "code 0 when word 1; code 49 when word 2; mend 3;");
    int[][] due = {{0, -2}, {2, -2}, {3, 0}, {5, 100}, {7, 100}, {8, 0}, {10, -2}, {13, -2},
        {16, -2}, {17, 49}, {18, -2}, {19, -1}, {20, -2}, {22, -1}, {23, -2}, {143, -2}};
    for (int[] d : due) {
      CHECK.due("mend 3: ten(0, " + d[0] + ")", x.ten(0, d[0]), d[1]);
    }
    CHECK.good(x, "code 49 when 1; mend 4;");
    CHECK.due("mend 4: ten(0, 0)", x.ten(0, 0), -2);
    CHECK.due("mend 4: ten(0, 10)", x.ten(0, 10), 149);
    CHECK.due("mend 4: ten(0, 20)", x.ten(0, 20), 149);
    CHECK.due("mend 4: ten(0, 23)", x.ten(0, 23), -2);
    CHECK.good(x, "code 49 when 1;");
    CHECK.due("no mending: ten(0, 20)", x.ten(0, 20), -2);
    x.choose(1);
    x.line(0, 12, 12, 5, 0, 0, 0);
    CHECK.due("a line came: ten(0, 12)", x.ten(0, 12), 49);
    CHECK.due("a line came: ten(0, 13)", x.ten(0, 13), 149);
    x.diary(0, 1, 0, 0);
    x.line(1, 0, 0, 1, 0, 0, 0);
    x.line(1, 143, 143, 1, 0, 0, 0);
    CHECK.good(x, "code 5 when 1; mend 141;");
    CHECK.due("mend 141: ten(1, 70)", x.ten(1, 70), -2);
    CHECK.good(x, "code 5 when 1; mend 142;");
    CHECK.due("mend 142: ten(1, 70)", x.ten(1, 70), 105);
  }
}
