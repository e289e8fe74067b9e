import java.util.Arrays;
import java.util.function.Consumer;
import java.util.function.ToIntFunction;

/** The boundary cases of promises 3, 4, 9, 18 and 19: diaries and lines, and what is told of them. */
public final class EdgesOfDiariesTest {
  private static final Check CHECK = new Check();
  private static final Twins TWINS = new Twins(CHECK);
  private static final int MIN = Integer.MIN_VALUE;
  private static final int MAX = Integer.MAX_VALUE;

  public static void main(String[] args) {
    promise3Numbers();
    promise3NoTwoOfOne();
    promise3ItsNumber();
    promise3FortyAtMost();
    promise3RefusedChangesNothing();
    promise4TensOfADay();
    promise4BToo();
    promise4AAboveB();
    promise4WordAndSecond();
    promise4Place();
    promise4Who();
    promise4OwnPerson();
    promise4NoTenInCommon();
    promise4NumberedByTens();
    promise4HowManyTheDiaryHas();
    promise4TwentyFourAtMost();
    promise4NoSuchDiary();
    promise4RefusedChangesNothing();
    promise9What();
    promise9ByTens();
    promise9NoneSuch();
    promise18What();
    promise18Lines();
    promise18Gaps();
    promise18Mended();
    promise18WithoutCode();
    promise18NoneSuch();
    promise19OtherWhat();
    promise19NothingYetAndFull();
    promise19LinesInAll();
    CHECK.end("EdgesOfDiariesTest");
  }

  private static int line(DayDiary x, int... n) {
    return x.line(n[0], n[1], n[2], n[3], n[4], n[5], n[6]);
  }

  private static DayDiary oneDiary(int person) {
    DayDiary x = new DayDiary();
    x.diary(0, person, 0, 0);
    return x;
  }

  /** A new diary takes the line and holds it as it was told. */
  private static boolean takes(int person, int... n) {
    DayDiary x = oneDiary(person);
    int answer = line(x, n);
    CHECK.due("line" + Arrays.toString(n) + " of one or none", answer, x.count(4) == 1 ? 1 : -1);
    for (int what = 0; what < 6 && answer == 1; what++) {
      CHECK.due("look(0, 0, " + what + ")", x.look(0, 0, what), n[what + 1]);
    }
    return answer == 1;
  }

  private static void promise3Numbers() {
    CHECK.sentence(3, "a house (0 .. 9)");
    CHECK.edges("diary, house", 0, 9, n -> told(n, 3, 2, 1, 4));
    CHECK.sentence(3, "a person (0 .. 7)");
    CHECK.edges("diary, person", 0, 7, n -> told(5, n, 2, 1, 5));
    CHECK.sentence(3, "a day (0 .. 6)");
    CHECK.edges("diary, day", 0, 6, n -> told(5, 3, n, 1, 6));
    CHECK.sentence(3, "an age (0 .. 2)");
    CHECK.edges("diary, age", 0, 2, n -> told(5, 3, 2, n, 7));
  }

  /** The diary is there, and tells the number that is asked for. */
  private static boolean told(int house, int person, int day, int age, int what) {
    DayDiary x = new DayDiary();
    int[] n = {house, person, day, age};
    int answer = x.diary(house, person, day, age);
    CHECK.due("diary" + Arrays.toString(n), answer, x.count(0) == 1 ? 0 : -1);
    if (answer == 0) {
      CHECK.due("day(0, " + what + ")", x.day(0, what), n[what - 4]);
    }
    return answer == 0;
  }

  private static void promise3NoTwoOfOne() {
    CHECK.sentence(3, "no two of one house, person and day");
    DayDiary x = new DayDiary();
    CHECK.due("diary(0, 0, 0, 0)", x.diary(0, 0, 0, 0), 0);
    CHECK.due("the same", x.diary(0, 0, 0, 0), -1);
    CHECK.due("of another age", x.diary(0, 0, 0, 1), -1);
    CHECK.due("the age stays", x.day(0, 7), 0);
    CHECK.due("another house alone", x.diary(1, 0, 0, 0), 1);
    CHECK.due("another person alone", x.diary(0, 1, 0, 0), 2);
    CHECK.due("another day alone", x.diary(0, 0, 1, 0), 3);
    CHECK.due("the greatest", x.diary(9, 7, 6, 2), 4);
    CHECK.due("the greatest again", x.diary(9, 7, 6, 0), -1);
    // numbers that a key of house, person and day, each too narrow, would hold for the same
    CHECK.due("diary(0, 7, 1, 0)", x.diary(0, 7, 1, 0), 5);
    CHECK.due("diary(1, 0, 1, 0)", x.diary(1, 0, 1, 0), 6);
    CHECK.due("diary(0, 1, 6, 0)", x.diary(0, 1, 6, 0), 7);
    CHECK.due("diary(1, 1, 0, 0)", x.diary(1, 1, 0, 0), 8);
    CHECK.due("the last but one again", x.diary(0, 1, 6, 2), -1);
  }

  private static void promise3ItsNumber() {
    CHECK.sentence(3, "A DIARY more: its number");
    DayDiary x = new DayDiary();
    CHECK.due("none is there, and one is refused", x.diary(0, 0, 0, 3), -1);
    CHECK.due("the first", x.diary(9, 7, 6, 2), 0);
    CHECK.due("refused", x.diary(9, 7, 6, 2), -1);
    CHECK.due("the second", x.diary(0, 0, 0, 0), 1);
    int[][] due = {{9, 7, 6, 2}, {0, 0, 0, 0}};
    for (int d = 0; d < 2; d++) {
      for (int what = 4; what < 8; what++) {
        CHECK.due("day(" + d + ", " + what + ")", x.day(d, what), due[d][what - 4]);
      }
    }
  }

  private static void fortyDiaries(DayDiary x) {
    for (int i = 0; i < 40; i++) {
      x.diary(i % 10, i / 10, i % 7, i % 3);
    }
    x.line(0, 0, 9, 1, 0, 0, 0);
    x.line(39, 134, 143, 2, 0, 0, 0);
    Check.text(x, "code 0 when 1;");
  }

  private static void promise3FortyAtMost() {
    CHECK.sentence(3, "DIARIES, 40 at most");
    DayDiary x = new DayDiary();
    for (int i = 0; i < 39; i++) {
      CHECK.due("diary " + i, x.diary(i % 10, i / 10, 0, 0), i);
    }
    CHECK.due("one is refused", x.diary(10, 0, 0, 0), -1);
    CHECK.due("the 40th", x.diary(9, 7, 6, 2), 39);
    CHECK.due("a 41st", x.diary(8, 7, 6, 2), -1);
    CHECK.due("another one", x.diary(0, 7, 6, 2), -1);
    CHECK.due("count(0)", x.count(0), 40);
    CHECK.due("the 40th's person", x.day(39, 5), 7);
    CHECK.dayThrows(x, 40, 0);
  }

  private static void promise3RefusedChangesNothing() {
    CHECK.sentence(3, "NONE: other numbers, there is one of that house, person and day, 40 are there.");
    int[][] wrong = {{-1, 0, 0, 0}, {10, 0, 0, 0}, {5, -1, 0, 0}, {5, 8, 0, 0}, {5, 0, -1, 0},
        {5, 0, 7, 0}, {5, 0, 0, -1}, {5, 0, 0, 3}, {0, 0, 0, 0}, {9, 7, 6, 2}};
    for (int[] n : wrong) {
      TWINS.refused("diary" + Arrays.toString(n), Twins::madeWithTape,
          x -> x.diary(n[0], n[1], n[2], n[3]), -1);
    }
    TWINS.refused("a 41st diary", EdgesOfDiariesTest::fortyDiaries, x -> x.diary(9, 7, 6, 2), -1);
    TWINS.refused("one of the 40 again", EdgesOfDiariesTest::fortyDiaries,
        x -> x.diary(0, 0, 0, 2), -1);
  }

  private static void promise4TensOfADay() {
    CHECK.sentence(4, "A day has 144 TENS, 0 .. 143.");
    CHECK.edges("line from a to 143", 0, 143, a -> takes(0, 0, a, 143, 1, 0, 0, 0));
    CHECK.edges("line from 0 to b", 0, 143, b -> takes(0, 0, 0, b, 1, 0, 0, 0));
    CHECK.edges("line of one ten", 0, 143, a -> takes(0, 0, a, a, 1, 0, 0, 0));
    CHECK.edges("ten(0, ten)", 0, 143, ten -> oneDiary(0).ten(0, ten) != -3);
  }

  private static void promise4BToo() {
    CHECK.sentence(4, "TENS a to b (b too)");
    int[][] lines = {{0, 0}, {0, 1}, {70, 70}, {70, 72}, {142, 143}, {143, 143}, {0, 143}};
    for (int[] ab : lines) {
      DayDiary x = oneDiary(0);
      x.line(0, ab[0], ab[1], 1, 0, 0, 0);
      CHECK.due("day(0, 1)", x.day(0, 1), 144 - (ab[1] - ab[0] + 1));
      for (int ten = 0; ten < 144; ten++) {
        CHECK.due("line from " + ab[0] + " to " + ab[1] + ": ten(0, " + ten + ")", x.ten(0, ten),
            ab[0] <= ten && ten <= ab[1] ? -1 : -2);
      }
    }
  }

  private static void promise4AAboveB() {
    CHECK.sentence(4, "a above b");
    for (int b : new int[] {0, 1, 70, 142}) {
      CHECK.due("a is b", takes(0, 0, b, b, 1, 0, 0, 0), true);
      CHECK.due("a is b + 1", takes(0, 0, b + 1, b, 1, 0, 0, 0), false);
    }
    CHECK.due("line from 143 to 0", takes(0, 0, 143, 0, 1, 0, 0, 0), false);
    CHECK.due("line from MAX to MIN", takes(0, 0, MAX, MIN, 1, 0, 0, 0), false);
    CHECK.due("line from MIN to MAX", takes(0, 0, MIN, MAX, 1, 0, 0, 0), false);
  }

  private static void promise4WordAndSecond() {
    CHECK.sentence(4, "WORDS are 1 .. 200");
    CHECK.edges("line, word", 1, 200, n -> takes(0, 0, 3, 5, n, 0, 0, 0));
    CHECK.sentence(4, "a second WORD (0: none)");
    CHECK.edges("line, second", 0, 200, n -> takes(0, 0, 3, 5, 7, n, 0, 0));
    CHECK.due("the second may be the first again", takes(0, 0, 3, 5, 7, 7, 0, 0), true);
  }

  private static void promise4Place() {
    CHECK.sentence(4, "a place (0 .. 9)");
    CHECK.edges("line, place", 0, 9, n -> takes(0, 0, 3, 5, 7, 0, n, 0));
  }

  private static void promise4Who() {
    CHECK.sentence(4, "who not 0 .. 255");
    CHECK.edges("line of person 7, who", 0, 127, n -> takes(7, 0, 3, 5, 7, 0, 0, n));
    for (int half = 0; half < 128; half++) {
      CHECK.due("line of person 0, who", takes(0, 0, 3, 5, 7, 0, 0, 2 * half), true);
    }
    for (int who : new int[] {-1, -2, -256, 256, 258, 512, 65536, MIN, MIN + 2, MAX - 1}) {
      CHECK.due("line of person 0, who " + who, takes(0, 0, 3, 5, 7, 0, 0, who), false);
    }
  }

  private static void promise4OwnPerson() {
    CHECK.sentence(4, "the DIARY's own person never is in it");
    for (int person = 0; person < 8; person++) {
      int own = 1 << person;
      CHECK.due("nobody", takes(person, 0, 3, 5, 7, 0, 0, 0), true);
      CHECK.due("the own person alone", takes(person, 0, 3, 5, 7, 0, 0, own), false);
      CHECK.due("all", takes(person, 0, 3, 5, 7, 0, 0, 255), false);
      CHECK.due("all others", takes(person, 0, 3, 5, 7, 0, 0, 255 - own), true);
      for (int other = 0; other < 8; other++) {
        CHECK.due("person " + person + " with " + other, takes(person, 0, 3, 5, 7, 0, 0,
            1 << other), other != person);
      }
    }
    DayDiary x = oneDiary(0);
    x.diary(0, 1, 0, 0);
    CHECK.due("the own person is that of the line's diary", x.line(1, 0, 0, 1, 0, 0, 1), 1);
    CHECK.due("and of no other", x.line(1, 1, 1, 1, 0, 0, 2), -1);
  }

  private static void promise4NoTenInCommon() {
    CHECK.sentence(4, "Lines of a DIARY have no TEN in common");
    int[][] tried = {{50, 60, -1}, {50, 50, -1}, {60, 60, -1}, {55, 55, -1}, {49, 50, -1},
        {60, 61, -1}, {49, 61, -1}, {0, 143, -1}, {0, 50, -1}, {60, 143, -1}, {51, 59, -1},
        {0, 49, 2}, {61, 143, 2}, {49, 49, 2}, {61, 61, 2}};
    for (int[] t : tried) {
      DayDiary x = oneDiary(0);
      x.diary(0, 1, 0, 0);
      x.line(0, 50, 60, 1, 0, 0, 0);
      CHECK.due("beside 50 to 60: " + t[0] + " to " + t[1], x.line(0, t[0], t[1], 1, 0, 0, 0),
          t[2]);
      CHECK.due("of another diary", x.line(1, t[0], t[1], 1, 0, 0, 0), 1);
    }
    CHECK.sentence(4, "a TEN that a line has");
    DayDiary x = oneDiary(0);
    x.line(0, 0, 0, 1, 0, 0, 0);
    x.line(0, 143, 143, 1, 0, 0, 0);
    x.line(0, 70, 71, 1, 0, 0, 0);
    CHECK.due("the first ten", x.line(0, 0, 1, 1, 0, 0, 0), -1);
    CHECK.due("the last ten", x.line(0, 142, 143, 1, 0, 0, 0), -1);
    CHECK.due("the line in the middle", x.line(0, 1, 142, 1, 0, 0, 0), -1);
    CHECK.due("all ahead of it", x.line(0, 1, 69, 1, 0, 0, 0), 4);
    CHECK.due("all behind it", x.line(0, 72, 142, 1, 0, 0, 0), 5);
    CHECK.due("nothing is left", x.line(0, 100, 100, 1, 0, 0, 0), -1);
    CHECK.due("day(0, 1)", x.day(0, 1), 0);
  }

  private static void promise4NumberedByTens() {
    CHECK.sentence(4, "they are numbered by their TENS");
    int[][] orders = {{0, 1, 2, 3}, {3, 2, 1, 0}, {1, 3, 0, 2}, {2, 0, 3, 1}};
    int[] tens = {0, 1, 70, 143};
    for (int[] order : orders) {
      DayDiary x = oneDiary(0);
      for (int i = 0; i < 4; i++) {
        CHECK.due("how many", x.line(0, tens[order[i]], tens[order[i]], 10 + order[i], 0, 0, 0),
            i + 1);
      }
      for (int i = 0; i < 4; i++) {
        CHECK.due(Arrays.toString(order) + ": look(0, " + i + ", 0)", x.look(0, i, 0), tens[i]);
        CHECK.due(Arrays.toString(order) + ": look(0, " + i + ", 2)", x.look(0, i, 2), 10 + i);
      }
    }
  }

  private static void promise4HowManyTheDiaryHas() {
    CHECK.sentence(4, "A line more: how many the DIARY has");
    DayDiary x = oneDiary(0);
    x.diary(0, 1, 0, 0);
    CHECK.due("the first", x.line(0, 5, 5, 1, 0, 0, 0), 1);
    CHECK.due("refused", x.line(0, 5, 5, 1, 0, 0, 0), -1);
    CHECK.due("the second, ahead of it", x.line(0, 0, 4, 1, 0, 0, 0), 2);
    CHECK.due("the first of the other", x.line(1, 5, 5, 1, 0, 0, 0), 1);
    CHECK.due("the third", x.line(0, 143, 143, 1, 0, 0, 0), 3);
    CHECK.due("day(0, 0)", x.day(0, 0), 3);
    CHECK.due("day(1, 0)", x.day(1, 0), 1);
  }

  private static void fullOfLines(DayDiary x) {
    x.diary(0, 0, 0, 0);
    x.diary(0, 1, 0, 0);
    for (int i = 0; i < 24; i++) {
      x.line(0, 140 - 2 * i, 140 - 2 * i, 1 + i, 0, 0, 0);
    }
    Check.text(x, "code 0 when word 1; code 49 when 1; mend 1;");
  }

  private static void promise4TwentyFourAtMost() {
    CHECK.sentence(4, "A line, 24 of a DIARY at most");
    DayDiary x = oneDiary(0);
    x.diary(0, 1, 0, 0);
    for (int i = 0; i < 23; i++) {
      CHECK.due("line " + i, x.line(0, 2 * i, 2 * i, 1, 0, 0, 0), i + 1);
    }
    CHECK.due("one is refused", x.line(0, 44, 45, 1, 0, 0, 0), -1);
    CHECK.due("the 24th", x.line(0, 143, 143, 1, 0, 0, 0), 24);
    CHECK.due("a 25th, behind", x.line(0, 100, 100, 1, 0, 0, 0), -1);
    CHECK.due("a 25th, between", x.line(0, 1, 1, 1, 0, 0, 0), -1);
    CHECK.due("day(0, 0)", x.day(0, 0), 24);
    CHECK.due("of another diary", x.line(1, 100, 100, 1, 0, 0, 0), 1);
    CHECK.due("count(4)", x.count(4), 25);
    CHECK.lookThrows(x, 0, 24, 0);
  }

  private static void promise4NoSuchDiary() {
    CHECK.sentence(4, "NONE: no such DIARY");
    for (int diaries : new int[] {1, 2, 40}) {
      CHECK.edges(diaries + " diaries: line", 0, diaries - 1, d -> {
        DayDiary x = new DayDiary();
        for (int i = 0; i < diaries; i++) {
          x.diary(i % 10, i / 10, 0, 0);
        }
        return x.line(d, 0, 0, 1, 0, 0, 0) == 1 && x.day(d, 0) == 1;
      });
    }
    for (int d : new int[] {-1, 0, 1, MIN, MAX}) {
      CHECK.due("no diaries: line of " + d, new DayDiary().line(d, 0, 0, 1, 0, 0, 0), -1);
    }
  }

  private static void promise4RefusedChangesNothing() {
    CHECK.sentence(4, "other numbers (a above b, who not 0 .. 255, the own person in it)");
    int[][] wrong = {{4, 60, 61, 1, 0, 0, 0}, {-1, 60, 61, 1, 0, 0, 0}, {0, 61, 60, 1, 0, 0, 0},
        {0, -1, 60, 1, 0, 0, 0}, {0, 60, 144, 1, 0, 0, 0}, {0, 60, 61, 0, 0, 0, 0},
        {0, 60, 61, 201, 0, 0, 0}, {0, 60, 61, 1, -1, 0, 0}, {0, 60, 61, 1, 201, 0, 0},
        {0, 60, 61, 1, 0, -1, 0}, {0, 60, 61, 1, 0, 10, 0}, {0, 60, 61, 1, 0, 0, -2},
        {0, 60, 61, 1, 0, 0, 256}, {0, 60, 61, 1, 0, 0, 1}, {0, 60, 61, 1, 0, 0, 255},
        {0, 9, 11, 1, 0, 0, 0}, {0, 10, 12, 1, 0, 0, 0}, {0, 0, 143, 1, 0, 0, 0},
        {2, 143, 143, 1, 0, 0, 0}};
    for (int[] n : wrong) {
      TWINS.refused("line" + Arrays.toString(n), Twins::madeWithTape, x -> line(x, n), -1);
    }
    CHECK.sentence(4, "24 are there");
    Consumer<DayDiary> made = EdgesOfDiariesTest::fullOfLines;
    TWINS.refused("a 25th line", made, x -> x.line(0, 10, 10, 1, 0, 0, 0), -1);
    TWINS.refused("a 25th line, between", made, x -> x.line(0, 139, 139, 1, 0, 0, 0), -1);
  }

  private static void promise9What() {
    CHECK.sentence(9, "what 0: a, 1: b, 2: WORD, 3: second, 4: place, 5: who");
    int[][] lines = {{0, 0, 1, 0, 0, 0}, {1, 142, 200, 200, 9, 254}, {143, 143, 100, 1, 5, 2}};
    DayDiary x = oneDiary(0);
    for (int[] n : lines) {
      x.line(0, n[0], n[1], n[2], n[3], n[4], n[5]);
    }
    for (int k = 0; k < lines.length; k++) {
      for (int what = 0; what < 6; what++) {
        CHECK.due("look(0, " + k + ", " + what + ")", x.look(0, k, what), lines[k][what]);
      }
    }
    CHECK.edges("look(0, 0, what)", 0, 5, what -> Check.answer(() -> x.look(0, 0, what)) != null);
  }

  private static void promise9ByTens() {
    CHECK.sentence(9, "Of a line, by TENS");
    DayDiary x = oneDiary(0);
    x.line(0, 143, 143, 200, 0, 0, 0);
    CHECK.due("alone", x.look(0, 0, 0), 143);
    x.line(0, 0, 0, 1, 0, 0, 0);
    CHECK.due("one came ahead of it", x.look(0, 0, 0), 0);
    CHECK.due("it is the second now", x.look(0, 1, 0), 143);
    x.line(0, 1, 142, 100, 0, 0, 0);
    CHECK.due("one came between", x.look(0, 1, 2), 100);
    CHECK.due("it is the last", x.look(0, 2, 2), 200);
  }

  private static void promise9NoneSuch() {
    CHECK.sentence(9, "NoSuchElementException: none such.");
    DayDiary x = oneDiary(0);
    CHECK.lookThrows(new DayDiary(), 0, 0, 0);
    CHECK.lookThrows(x, 0, 0, 0);
    x.diary(1, 0, 0, 0);
    x.line(1, 0, 0, 1, 0, 0, 0);
    x.line(1, 1, 1, 1, 0, 0, 0);
    CHECK.edges("look(1, line, 5)", 0, 1, k -> Check.answer(() -> x.look(1, k, 5)) != null);
    CHECK.edges("look(diary, 1, 0)", 1, 1, d -> Check.answer(() -> x.look(d, 1, 0)) != null);
    DayDiary full = new DayDiary();
    fullOfLines(full);
    CHECK.edges("24 lines: look", 0, 23, k -> Check.answer(() -> full.look(0, k, 0)) != null);
    int[][] wrong = {{0, 0, -1}, {0, 0, 6}, {0, -1, 0}, {0, 4, 0}, {-1, 0, 0}, {4, 0, 0},
        {MAX, MAX, MAX}, {MIN, MIN, MIN}};
    for (int[] w : wrong) {
      TWINS.refused("look" + Arrays.toString(w), Twins::madeWithTape,
          y -> Check.answer(() -> y.look(w[0], w[1], w[2])) == null ? 1 : 0, 1);
    }
    TWINS.unchanged("looks that are answered", Twins::madeWithTape, y -> {
      for (int what = 0; what < 6; what++) {
        y.look(0, 1, what);
      }
    });
  }

  private static void promise18What() {
    CHECK.sentence(18, "4: house, 5: person, 6: day, 7: age");
    int[][] diaries = {{0, 0, 0, 0}, {9, 7, 6, 2}, {1, 2, 3, 0}};
    DayDiary x = new DayDiary();
    for (int[] d : diaries) {
      x.diary(d[0], d[1], d[2], d[3]);
    }
    for (int d = 0; d < diaries.length; d++) {
      for (int what = 4; what < 8; what++) {
        CHECK.due("day(" + d + ", " + what + ")", x.day(d, what), diaries[d][what - 4]);
      }
    }
    CHECK.edges("day(0, what)", 0, 7, what -> Check.answer(() -> x.day(0, what)) != null);
  }

  private static void promise18Lines() {
    CHECK.sentence(18, "what 0: lines");
    DayDiary x = oneDiary(0);
    CHECK.due("no line yet", x.day(0, 0), 0);
    for (int i = 0; i < 24; i++) {
      x.line(0, i, i, 1, 0, 0, 0);
      CHECK.due("day(0, 0)", x.day(0, 0), i + 1);
    }
    x.line(0, 24, 24, 1, 0, 0, 0);
    CHECK.due("behind a 25th", x.day(0, 0), 24);
  }

  private static void promise18Gaps() {
    CHECK.sentence(18, "1: TENS without a line");
    DayDiary x = oneDiary(0);
    CHECK.due("no line yet", x.day(0, 1), 144);
    x.line(0, 0, 0, 1, 0, 0, 0);
    CHECK.due("one ten", x.day(0, 1), 143);
    x.line(0, 2, 143, 1, 0, 0, 0);
    CHECK.due("all but one", x.day(0, 1), 1);
    Check.text(x, "code 0 when 1; mend 1;");
    CHECK.due("a gap mended is without a line, too", x.day(0, 1), 1);
    x.line(0, 1, 1, 1, 0, 0, 0);
    CHECK.due("all", x.day(0, 1), 0);
  }

  private static void promise18Mended() {
    CHECK.sentence(18, "2: those MENDED");
    DayDiary x = oneDiary(0);
    CHECK.due("no text", x.day(0, 2), 0);
    Check.text(x, "code 0 when 1; mend 142;");
    CHECK.due("no line", x.day(0, 2), 0);
    x.line(0, 0, 0, 1, 0, 0, 0);
    CHECK.due("one line", x.day(0, 2), 0);
    x.line(0, 143, 143, 1, 0, 0, 0);
    CHECK.due("the widest gap", x.day(0, 2), 142);
    Check.text(x, "code 0 when 1; mend 141;");
    CHECK.due("too wide by one", x.day(0, 2), 0);
    x.line(0, 71, 71, 1, 0, 0, 0);
    CHECK.due("two gaps", x.day(0, 2), 141);
  }

  private static void promise18WithoutCode() {
    CHECK.sentence(18, "3: lines without a CODE");
    DayDiary x = oneDiary(0);
    CHECK.due("no line", x.day(0, 3), 0);
    for (int i = 0; i < 24; i++) {
      x.line(0, i, i, i < 12 ? 1 : 2, 0, 0, 0);
      CHECK.due("no text", x.day(0, 3), i + 1);
    }
    Check.text(x, "");
    CHECK.due("no rule", x.day(0, 3), 24);
    Check.text(x, "code 0 when word 1;");
    CHECK.due("code 0 is a code", x.day(0, 3), 12);
    Check.text(x, "code 49 when 1;");
    CHECK.due("all have one", x.day(0, 3), 0);
  }

  private static void promise18NoneSuch() {
    CHECK.sentence(18, "NoSuchElementException: none such.");
    CHECK.dayThrows(new DayDiary(), 0, 0);
    CHECK.dayThrows(new DayDiary(), -1, 4);
    DayDiary x = new DayDiary();
    fortyDiaries(x);
    for (int what = 0; what < 8; what++) {
      CHECK.dayThrows(x, -1, what);
      CHECK.dayThrows(x, 40, what);
    }
    CHECK.edges("40 diaries: day", 0, 39, d -> Check.answer(() -> x.day(d, 7)) != null);
    int[][] wrong = {{0, -1}, {0, 8}, {-1, 0}, {4, 0}, {MAX, MIN}, {MIN, MAX}};
    for (int[] w : wrong) {
      TWINS.refused("day" + Arrays.toString(w), Twins::madeWithTape,
          y -> Check.answer(() -> y.day(w[0], w[1])) == null ? 1 : 0, 1);
    }
    TWINS.unchanged("days that are answered", Twins::madeWithTape, y -> {
      for (int what = 0; what < 8; what++) {
        y.day(0, what);
      }
    });
  }

  private static void promise19OtherWhat() {
    CHECK.sentence(19, "NONE for another what.");
    DayDiary x = new DayDiary();
    Twins.madeWithTape(x);
    CHECK.edges("count(what)", 0, 5, what -> x.count(what) != -1);
    for (int what : new int[] {-1, 6, MIN, MAX}) {
      TWINS.refused("count(" + what + ")", Twins::madeWithTape, y -> y.count(what), -1);
    }
  }

  /** The answers of a count, of nothing and then step by step to as much as there may be. */
  private static void counted(int what, int most, Consumer<DayDiary> made, ToIntFunction<DayDiary> more) {
    DayDiary x = new DayDiary();
    made.accept(x);
    for (int i = 0; i <= most; i++) {
      CHECK.due("count(" + what + ")", x.count(what), what == 2 ? i - 1 : i);
      more.applyAsInt(x);
    }
    CHECK.due("one more: count(" + what + ")", x.count(what), what == 2 ? most - 1 : most);
  }

  private static void promise19NothingYetAndFull() {
    CHECK.sentence(19, "What 0: DIARIES");
    counted(0, 40, x -> { }, x -> x.diary(x.count(0) % 10, x.count(0) / 10, 6, 2));
    CHECK.sentence(19, "1: texts");
    counted(1, 8, x -> { }, DayDiary::text);
    CHECK.sentence(19, "2: the text in force (NONE)");
    counted(2, 8, x -> { }, DayDiary::text);
    CHECK.sentence(19, "3: signs on the TAPE");
    DayDiary x = new DayDiary();
    for (int signs = 0; signs < 792; signs += 8) {
      CHECK.due("count(3)", x.count(3), signs);
      x.feed(Check.eight("        ", 0), 0, 0);
    }
    for (int signs = 792; signs <= 800; signs++) {
      CHECK.due("count(3)", x.count(3), signs);
      x.feed(0, ' ', 0);
    }
    CHECK.due("one more: count(3)", x.count(3), 800);
    CHECK.sentence(19, "5: rules of the text in force (0 without)");
    for (int rules = 0; rules <= 24; rules++) {
      DayDiary y = new DayDiary();
      CHECK.due("without a text: count(5)", y.count(5), 0);
      CHECK.good(y, "code 1 when 1;".repeat(rules) + "mend 1;");
      CHECK.due("count(5)", y.count(5), rules);
      y.choose(-1);
      CHECK.due("none in force: count(5)", y.count(5), 0);
    }
  }

  private static void promise19LinesInAll() {
    CHECK.sentence(19, "4: lines in all");
    DayDiary x = new DayDiary();
    CHECK.due("no diary", x.count(4), 0);
    int calls = 1;
    int lines = 0;
    for (int d = 0; d < 21; d++) {
      x.diary(d % 10, d / 10, 0, 0);
      calls++;
      for (int k = 0; k < 24 && calls < 511; k++) {
        x.line(d, 143 - k, 143 - k, 1, 0, 0, 0);
        calls++;
        lines++;
      }
    }
    CHECK.due("as many as 512 calls can bring", x.count(4), lines);
    DayDiary y = oneDiary(0);
    y.diary(0, 1, 0, 0);
    CHECK.due("no line", y.count(4), 0);
    y.line(1, 0, 0, 1, 0, 0, 0);
    CHECK.due("of the last diary", y.count(4), 1);
    y.line(0, 0, 0, 1, 0, 0, 0);
    CHECK.due("of both", y.count(4), 2);
  }
}
