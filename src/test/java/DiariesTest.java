/** Promises 1 to 4, 9, 18 and 19: words, diaries and lines, and what is told of them. */
public final class DiariesTest {
  private static final Check CHECK = new Check();

  public static void main(String[] args) {
    promise1NewObject();
    promise2Below();
    promise2UnderIsFollowedUpwards();
    promise3Diary();
    promise3FortyDiaries();
    promise4Line();
    promise4WrongLines();
    promise4TwentyFourLines();
    promise9Look();
    promise18Day();
    promise19Count();
    CHECK.end("DiariesTest");
  }

  private static void promise1NewObject() {
    DayDiary x = new DayDiary();
    int[] due = {0, 0, -1, 0, 0, 0};
    for (int what = 0; what < due.length; what++) {
      CHECK.due("new: count(" + what + ")", x.count(what), due[what]);
    }
    CHECK.due("new: weight(0)", x.weight(0), -1);
    CHECK.due("new: rounds(0)", x.rounds(0), 0);
    CHECK.due("new: choose(0)", x.choose(0), false);
    CHECK.due("new: cell(0, 0, true)", x.cell(0, 0, true), 0);
    CHECK.due("new: code(0, 0)", x.code(0, 0), -2);
    CHECK.due("new: ten(0, 0)", x.ten(0, 0), -3);
    CHECK.due("NONE", DayDiary.NONE, -1);
  }

  private static void promise2Below() {
    DayDiary x = new DayDiary();
    CHECK.due("below(200, 199)", x.below(200, 199), true);
    CHECK.due("below(2, 1)", x.below(2, 1), true);
    CHECK.due("below(1, 0)", x.below(1, 0), false);
    CHECK.due("below(1, 1)", x.below(1, 1), false);
    CHECK.due("below(1, 2)", x.below(1, 2), false);
    CHECK.due("below(201, 200)", x.below(201, 200), false);
    CHECK.due("below(0, -1)", x.below(0, -1), false);
    CHECK.due("below(5, -1)", x.below(5, -1), false);
    CHECK.due("below(MAX, 1)", x.below(Integer.MAX_VALUE, 1), false);
    CHECK.due("below(1, MIN)", x.below(1, Integer.MIN_VALUE), false);
  }

  private static void promise2UnderIsFollowedUpwards() {
    DayDiary x = new DayDiary();
    for (int word = 2; word <= 200; word++) {
      x.below(word, word - 1);
    }
    x.diary(0, 0, 0, 0);
    x.line(0, 0, 0, 200, 0, 0, 0);
    x.line(0, 1, 1, 1, 0, 0, 0);
    CHECK.good(x, "code 1 when word 1 and word 100 and word 200; code 2 when word 1;");
    CHECK.due("code of word 200", x.code(0, 0), 1);
    CHECK.due("code of word 1", x.code(0, 1), 2);
    x.below(150, 3);
    CHECK.due("150 put below 3: 200 is not under 100", x.code(0, 0), 2);
    x.below(150, 4);
    x.below(3, 2);
    CHECK.due("and still under 1", x.code(0, 0), 2);
    CHECK.due("a refused below(150, 149 + 1)", x.below(150, 150), false);
    CHECK.due("leaves the tree alone", x.code(0, 0), 2);
    x.below(150, 149);
    CHECK.due("150 put back below 149", x.code(0, 0), 1);
  }

  private static void promise3Diary() {
    DayDiary x = new DayDiary();
    CHECK.due("diary(9, 7, 6, 2)", x.diary(9, 7, 6, 2), 0);
    CHECK.due("diary(0, 0, 0, 0)", x.diary(0, 0, 0, 0), 1);
    CHECK.due("diary(9, 7, 6, 0)", x.diary(9, 7, 6, 0), -1);
    CHECK.due("diary(9, 7, 5, 2)", x.diary(9, 7, 5, 2), 2);
    CHECK.due("diary(9, 6, 6, 2)", x.diary(9, 6, 6, 2), 3);
    CHECK.due("diary(8, 7, 6, 2)", x.diary(8, 7, 6, 2), 4);
    int[][] wrong = {{10, 0, 0, 0}, {-1, 0, 0, 0}, {0, 8, 0, 0}, {0, -1, 0, 0}, {0, 1, 7, 0},
        {0, 1, -1, 0}, {0, 1, 0, 3}, {0, 1, 0, -1}, {Integer.MIN_VALUE, Integer.MAX_VALUE, 0, 0}};
    for (int[] w : wrong) {
      CHECK.due("diary(" + w[0] + ", " + w[1] + ", " + w[2] + ", " + w[3] + ")",
          x.diary(w[0], w[1], w[2], w[3]), -1);
    }
    CHECK.due("count(0)", x.count(0), 5);
  }

  private static void promise3FortyDiaries() {
    DayDiary x = new DayDiary();
    for (int i = 0; i < 40; i++) {
      CHECK.due("diary " + i, x.diary(i % 10, i / 10, 3, 1), i);
    }
    CHECK.due("a 41st diary", x.diary(0, 7, 3, 1), -1);
    CHECK.due("count(0)", x.count(0), 40);
    CHECK.due("line in the 40th", x.line(39, 0, 143, 1, 0, 0, 0), 1);
    CHECK.due("line in a 41st", x.line(40, 0, 143, 1, 0, 0, 0), -1);
  }

  private static void promise4Line() {
    DayDiary x = new DayDiary();
    x.diary(0, 7, 0, 0);
    CHECK.due("the last ten", x.line(0, 143, 143, 200, 200, 9, 127), 1);
    CHECK.due("the first ten", x.line(0, 0, 0, 1, 0, 0, 0), 2);
    CHECK.due("in the middle", x.line(0, 50, 60, 1, 1, 0, 0), 3);
    CHECK.due("over it", x.line(0, 49, 61, 1, 0, 0, 0), -1);
    CHECK.due("in it", x.line(0, 55, 55, 1, 0, 0, 0), -1);
    CHECK.due("at its first ten", x.line(0, 40, 50, 1, 0, 0, 0), -1);
    CHECK.due("at its last ten", x.line(0, 60, 70, 1, 0, 0, 0), -1);
    CHECK.due("right ahead", x.line(0, 40, 49, 1, 0, 0, 0), 4);
    CHECK.due("right behind", x.line(0, 61, 142, 1, 0, 0, 0), 5);
    CHECK.due("the rest", x.line(0, 1, 39, 1, 0, 0, 0), 6);
    CHECK.due("day(0, 1)", x.day(0, 1), 0);
  }

  private static void promise4WrongLines() {
    DayDiary x = new DayDiary();
    x.diary(0, 3, 0, 0);
    int[][] wrong = {{1, 0, 1, 1, 0, 0, 0}, {-1, 0, 1, 1, 0, 0, 0}, {0, 2, 1, 1, 0, 0, 0},
        {0, -1, 1, 1, 0, 0, 0}, {0, 143, 144, 1, 0, 0, 0}, {0, 144, 144, 1, 0, 0, 0},
        {0, 0, 1, 0, 0, 0, 0}, {0, 0, 1, 201, 0, 0, 0}, {0, 0, 1, 1, -1, 0, 0},
        {0, 0, 1, 1, 201, 0, 0}, {0, 0, 1, 1, 0, -1, 0}, {0, 0, 1, 1, 0, 10, 0},
        {0, 0, 1, 1, 0, 0, -1}, {0, 0, 1, 1, 0, 0, 256}, {0, 0, 1, 1, 0, 0, 8},
        {0, 0, 1, 1, 0, 0, 255}, {0, Integer.MIN_VALUE, Integer.MAX_VALUE, 1, 0, 0, 0}};
    for (int[] w : wrong) {
      CHECK.due("line" + java.util.Arrays.toString(w),
          x.line(w[0], w[1], w[2], w[3], w[4], w[5], w[6]), -1);
    }
    CHECK.due("no line came", x.count(4), 0);
    CHECK.due("all but the own person", x.line(0, 0, 1, 1, 0, 0, 255 - 8), 1);
  }

  private static void promise4TwentyFourLines() {
    DayDiary x = new DayDiary();
    x.diary(0, 0, 0, 0);
    x.diary(0, 1, 0, 0);
    for (int i = 0; i < 24; i++) {
      CHECK.due("line " + i, x.line(0, 100 - 2 * i, 100 - 2 * i, 1, 0, 0, 0), i + 1);
    }
    CHECK.due("a 25th line", x.line(0, 143, 143, 1, 0, 0, 0), -1);
    CHECK.due("of another diary", x.line(1, 143, 143, 1, 0, 0, 0), 1);
    for (int i = 0; i < 24; i++) {
      CHECK.due("look(0, " + i + ", 0)", x.look(0, i, 0), 54 + 2 * i);
    }
    CHECK.due("count(4)", x.count(4), 25);
  }

  private static void promise9Look() {
    DayDiary x = new DayDiary();
    x.diary(0, 0, 0, 0);
    x.line(0, 70, 80, 12, 0, 9, 2);
    x.line(0, 5, 9, 200, 33, 4, 254);
    int[][] due = {{5, 9, 200, 33, 4, 254}, {70, 80, 12, 0, 9, 2}};
    for (int line = 0; line < 2; line++) {
      for (int what = 0; what < 6; what++) {
        CHECK.due("look(0, " + line + ", " + what + ")", x.look(0, line, what), due[line][what]);
      }
    }
    int[][] wrong = {{0, 0, 6}, {0, 0, -1}, {0, 2, 0}, {0, -1, 0}, {1, 0, 0}, {-1, 0, 0},
        {Integer.MAX_VALUE, 0, 0}, {0, Integer.MIN_VALUE, 0}, {0, 0, Integer.MAX_VALUE}};
    for (int[] w : wrong) {
      CHECK.lookThrows(x, w[0], w[1], w[2]);
    }
  }

  private static void promise18Day() {
    DayDiary x = new DayDiary();
    x.diary(1, 2, 3, 0);
    x.diary(9, 7, 6, 2);
    x.line(1, 10, 19, 1, 0, 0, 0);
    x.line(1, 22, 29, 1, 0, 0, 0);
    x.line(1, 34, 34, 2, 0, 0, 0);
    x.line(1, 36, 36, 1, 0, 0, 0);
    x.line(1, 39, 39, 1, 0, 0, 0);
    dueDay(x, 0, new int[] {0, 144, 0, 0, 1, 2, 3, 0});
    dueDay(x, 1, new int[] {5, 123, 0, 5, 9, 7, 6, 2});
    CHECK.good(x, "code 0 when word 1; mend 2;");
    dueDay(x, 0, new int[] {0, 144, 0, 0, 1, 2, 3, 0});
    dueDay(x, 1, new int[] {5, 123, 4, 1, 9, 7, 6, 2});
    x.choose(DayDiary.NONE);
    dueDay(x, 1, new int[] {5, 123, 0, 5, 9, 7, 6, 2});
    int[][] wrong = {{2, 0}, {-1, 0}, {0, 8}, {0, -1}, {0, Integer.MIN_VALUE}};
    for (int[] w : wrong) {
      CHECK.dayThrows(x, w[0], w[1]);
    }
  }

  private static void dueDay(DayDiary x, int diary, int[] due) {
    for (int what = 0; what < due.length; what++) {
      CHECK.due("day(" + diary + ", " + what + ")", x.day(diary, what), due[what]);
    }
  }

  private static void promise19Count() {
    DayDiary x = new DayDiary();
    x.diary(0, 0, 0, 0);
    x.diary(0, 1, 0, 0);
    x.line(0, 0, 1, 1, 0, 0, 0);
    x.line(1, 0, 1, 1, 0, 0, 0);
    x.line(1, 2, 3, 1, 0, 0, 0);
    CHECK.good(x, "code 1 when 1; code 2 when 2; mend 1;");
    CHECK.good(x, "code 1 when 1;");
    Check.feed(x, "code");
    int[] due = {2, 2, 1, 4, 3, 1};
    for (int what = 0; what < due.length; what++) {
      CHECK.due("count(" + what + ")", x.count(what), due[what]);
    }
    x.choose(0);
    CHECK.due("count(2) of text 0", x.count(2), 0);
    CHECK.due("count(5) of text 0", x.count(5), 2);
    x.choose(-1);
    CHECK.due("count(2) of none", x.count(2), -1);
    CHECK.due("count(5) of none", x.count(5), 0);
    CHECK.due("count(6)", x.count(6), -1);
    CHECK.due("count(-1)", x.count(-1), -1);
    CHECK.due("count(MAX)", x.count(Integer.MAX_VALUE), -1);
  }
}
