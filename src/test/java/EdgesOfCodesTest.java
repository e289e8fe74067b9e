import java.util.function.Consumer;

/** The boundary cases of promises 8 and 10: the codes of lines, gaps, and what a ten is. */
public final class EdgesOfCodesTest {
  private static final Check CHECK = new Check();
  private static final Twins TWINS = new Twins(CHECK);
  private static final int MIN = Integer.MIN_VALUE;
  private static final int MAX = Integer.MAX_VALUE;

  public static void main(String[] args) {
    promise8NoSuchLine();
    promise8NoneForALineThatIsThere();
    promise8TheFirstRule();
    promise8WithoutOne();
    promise8WordUnder();
    promise8Second();
    promise8Next();
    promise8Place();
    promise8With();
    promise8From();
    promise8Long();
    promise8Ahead();
    promise8AgeAndDay();
    promise8NumbersAndSums();
    promise8And();
    promise8LessAndEqual();
    promise8FiveWithinOneAnother();
    promise10NoSuch();
    promise10CodeOfItsLine();
    promise10Gap();
    promise10TextMends();
    promise10BetweenTwoLines();
    promise10OfOneCode();
    promise10TensAtMost();
    promise10CountAsOfThatCode();
    promise10HundredAndCode();
    CHECK.end("EdgesOfCodesTest");
  }

  private static DayDiary oneDiary() {
    DayDiary x = new DayDiary();
    x.diary(0, 0, 0, 0);
    return x;
  }

  /** The value of an E for a line of the first diary that the calls have made. */
  private static void value(Consumer<DayDiary> made, int line, String e, int due) {
    DayDiary x = new DayDiary();
    made.accept(x);
    CHECK.good(x, "code 1 when (" + e + ") = " + (due < 0 ? "0 - " + -due : "" + due)
        + "; code 2 when (" + e + ") < 0; code 3 when 1;");
    CHECK.due("line " + line + ": " + e + " is " + due, x.code(0, line), 1);
  }

  private static void promise8NoSuchLine() {
    CHECK.sentence(8, "-2: no such line");
    DayDiary x = new DayDiary();
    CHECK.due("no diary", x.code(0, 0), -2);
    x.diary(0, 0, 0, 0);
    x.diary(0, 1, 0, 0);
    CHECK.due("no line", x.code(0, 0), -2);
    x.line(1, 0, 0, 1, 0, 0, 0);
    CHECK.due("of another diary", x.code(0, 0), -2);
    for (int k = 1; k < 24; k++) {
      x.line(1, k, k, 1, 0, 0, 0);
      CHECK.due("behind the last", x.code(1, k + 1), -2);
    }
    CHECK.edges("without a text: code(1, line)", 0, 23, k -> x.code(1, k) == -1);
    CHECK.good(x, "code 0 when 1;");
    CHECK.edges("code(1, line)", 0, 23, k -> x.code(1, k) == 0);
    CHECK.edges("code(diary, 0)", 1, 1, d -> x.code(d, 0) == 0);
    for (int[] n : new int[][] {{0, 4}, {0, -1}, {4, 0}, {-1, 0}, {MAX, MAX}, {MIN, MIN}}) {
      TWINS.refused("code(" + n[0] + ", " + n[1] + ")", Twins::madeWithTape,
          y -> y.code(n[0], n[1]), -2);
    }
    TWINS.refused("a code that is there", Twins::madeWithTape, y -> y.code(0, 2), 49);
  }

  private static void promise8NoneForALineThatIsThere() {
    CHECK.sentence(8, "-1: none");
    DayDiary x = oneDiary();
    CHECK.due("no line, no text", x.code(0, 0), -2);
    x.line(0, 143, 143, 1, 0, 0, 0);
    CHECK.due("a line, no text", x.code(0, 0), -1);
    CHECK.good(x, "code 0 when word 2;");
    CHECK.due("a line, no rule for it", x.code(0, 0), -1);
    CHECK.due("no line", x.code(0, 1), -2);
    x.line(0, 0, 0, 2, 0, 0, 0);
    CHECK.due("one with a rule came ahead", x.code(0, 0), 0);
    CHECK.due("the other", x.code(0, 1), -1);
  }

  private static void promise8TheFirstRule() {
    CHECK.sentence(8, "the first rule's whose E is not 0");
    for (int first = 0; first <= 24; first++) {
      DayDiary x = oneDiary();
      x.line(0, 0, 0, 1, 0, 0, 0);
      StringBuilder signs = new StringBuilder();
      for (int i = 0; i < 24; i++) {
        signs.append("code ").append(20 + i).append(" when ").append(i < first ? 0 : 1).append(';');
      }
      CHECK.good(x, signs.toString());
      CHECK.due("rule " + first + " is the first", x.code(0, 0), first < 24 ? 20 + first : -1);
    }
    for (int code : new int[] {0, 1, 48, 49}) {
      DayDiary x = oneDiary();
      x.line(0, 0, 0, 1, 0, 0, 0);
      CHECK.good(x, "code " + code + " when 1;");
      CHECK.due("code " + code, x.code(0, 0), code);
    }
  }

  private static void promise8WithoutOne() {
    CHECK.sentence(8, "-1 without one");
    DayDiary x = oneDiary();
    x.line(0, 0, 143, 1, 0, 0, 0);
    CHECK.due("no text", x.code(0, 0), -1);
    CHECK.good(x, "");
    CHECK.due("no rule", x.code(0, 0), -1);
    CHECK.good(x, "mend 143;");
    CHECK.due("no rule, though it mends", x.code(0, 0), -1);
    CHECK.good(x, "code 0 when 0;");
    CHECK.due("0 is 0", x.code(0, 0), -1);
    CHECK.good(x, "code 0 when 1;");
    CHECK.due("1 is not", x.code(0, 0), 0);
    CHECK.good(x, "code 0 when 0 - 1;");
    CHECK.due("nor is -1", x.code(0, 0), 0);
    x.choose(-1);
    CHECK.due("none in force", x.code(0, 0), -1);
  }

  private static void promise8WordUnder() {
    CHECK.sentence(8, "word k: 1 if the line's WORD is under k, else 0");
    for (int word : new int[] {1, 2, 199, 200}) {
      Consumer<DayDiary> made = x -> {
        x.diary(0, 0, 0, 0);
        x.line(0, 0, 0, word, 0, 0, 0);
      };
      for (int k : new int[] {1, 2, 199, 200}) {
        value(made, 0, "word " + k, word == k ? 1 : 0);
      }
    }
    Consumer<DayDiary> made = x -> {
      for (int word = 2; word <= 200; word++) {
        x.below(word, word - 1);
      }
      x.diary(0, 0, 0, 0);
      x.line(0, 0, 0, 200, 100, 0, 0);
      x.line(0, 1, 1, 1, 0, 0, 0);
    };
    value(made, 0, "word 1 + word 2 + word 199 + word 200", 4);
    value(made, 0, "second 1 + second 100 + second 101 + second 200", 2);
    value(made, 1, "word 1 + word 2 + word 199 + word 200", 1);
  }

  private static void promise8Second() {
    CHECK.sentence(8, "second k: likewise of its second WORD");
    Consumer<DayDiary> made = x -> {
      x.below(2, 1);
      x.diary(0, 0, 0, 0);
      x.line(0, 0, 0, 200, 0, 0, 0);
      x.line(0, 1, 1, 200, 1, 0, 0);
      x.line(0, 2, 2, 1, 200, 0, 0);
      x.line(0, 3, 3, 200, 2, 0, 0);
    };
    int[][] due = {{0, 0, 0}, {1, 0, 0}, {0, 0, 1}, {1, 1, 0}};
    for (int line = 0; line < 4; line++) {
      value(made, line, "second 1", due[line][0]);
      value(made, line, "second 2", due[line][1]);
      value(made, line, "second 200", due[line][2]);
    }
    DayDiary x = new DayDiary();
    made.accept(x);
    StringBuilder signs = new StringBuilder("code 1 when second 1");
    for (int k = 2; k <= 50; k++) {
      signs.append("+second ").append(k);
    }
    CHECK.good(x, signs.append(';').toString());
    CHECK.due("no second WORD is under none", x.code(0, 0), -1);
  }

  private static void promise8Next() {
    CHECK.sentence(8, "next k: likewise of the WORD of the line that is next (0 without one)");
    Consumer<DayDiary> alone = x -> {
      x.below(2, 1);
      x.diary(0, 0, 0, 0);
      x.diary(0, 1, 0, 0);
      x.line(0, 143, 143, 2, 2, 0, 0);
      x.line(1, 0, 0, 1, 0, 0, 0);
    };
    value(alone, 0, "next 1", 0);
    value(alone, 0, "next 2", 0);
    value(alone, 0, "next 200", 0);
    Consumer<DayDiary> three = x -> {
      alone.accept(x);
      x.line(0, 0, 0, 200, 0, 0, 0);
      x.line(0, 1, 1, 3, 1, 0, 0);
    };
    value(three, 0, "next 3", 1);
    value(three, 0, "next 1", 0);
    value(three, 0, "next 200", 0);
    value(three, 1, "next 2", 1);
    value(three, 1, "next 1", 1);
    value(three, 1, "next 3", 0);
    value(three, 2, "next 2", 0);
    value(three, 2, "next 1", 0);
  }

  private static void promise8Place() {
    CHECK.sentence(8, "a place (0 .. 9)");
    for (int place = 0; place < 10; place++) {
      int told = place;
      value(x -> {
        x.diary(9, 0, 6, 2);
        x.line(0, 7, 7, 1, 2, told, 6);
      }, 0, "place", place);
    }
  }

  private static void promise8With() {
    CHECK.sentence(8, "with: how many were there");
    for (int who : new int[] {0, 1, 2, 64, 3, 65, 126, 127}) {
      value(x -> {
        x.diary(0, 7, 0, 0);
        x.line(0, 7, 7, 1, 2, 9, who);
      }, 0, "with", Integer.bitCount(who));
    }
    value(x -> {
      x.diary(0, 0, 0, 0);
      x.line(0, 0, 0, 1, 0, 0, 254);
    }, 0, "with", 7);
    value(x -> {
      x.diary(0, 0, 0, 0);
      x.line(0, 0, 0, 1, 0, 0, 128);
    }, 0, "with", 1);
  }

  private static void promise8From() {
    CHECK.sentence(8, "from: its first TEN");
    for (int from : new int[] {0, 1, 127, 128, 142, 143}) {
      value(x -> {
        x.diary(0, 0, 0, 0);
        x.line(0, from, 143, 1, 0, 0, 0);
      }, 0, "from", from);
    }
  }

  private static void promise8Long() {
    CHECK.sentence(8, "long: its TENS");
    int[][] lines = {{0, 0}, {143, 143}, {0, 1}, {0, 143}, {1, 143}, {10, 137}, {10, 138}};
    for (int[] ab : lines) {
      value(x -> {
        x.diary(0, 0, 0, 0);
        x.line(0, ab[0], ab[1], 1, 0, 0, 0);
      }, 0, "long", ab[1] - ab[0] + 1);
    }
  }

  private static void promise8Ahead() {
    CHECK.sentence(8, "ahead: the CODE of the line ahead (-1 without one, or if it has none)");
    Consumer<DayDiary> made = x -> {
      x.diary(0, 0, 0, 0);
      x.diary(0, 1, 0, 0);
      x.line(0, 143, 143, 1, 0, 0, 0);
      x.line(1, 0, 0, 2, 0, 0, 0);
    };
    for (int code : new int[] {0, 1, 49}) {
      DayDiary x = new DayDiary();
      made.accept(x);
      CHECK.good(x, "code " + code + " when word 1; code 7 when ahead = 0 - 1; code 8 when 1;");
      CHECK.due("a line of another diary is not ahead", x.code(1, 0), 7);
      x.line(1, 143, 143, 2, 0, 0, 0);
      CHECK.good(x, "code " + code + " when from = 0; code 9 when ahead = " + code + ";");
      CHECK.due("the line ahead has code " + code, x.code(1, 1), 9);
      CHECK.good(x, "code 5 when from = 143 and ahead = 0 - 1;");
      CHECK.due("the line ahead has none", x.code(1, 1), 5);
      CHECK.due("there is none", x.code(0, 0), 5);
      x.line(1, 70, 70, 2, 0, 0, 0);
      CHECK.good(x, "code " + code + " when from < 70; code 10 when ahead = " + code
          + "; code 11 when ahead = 10;");
      CHECK.due("one after the other", x.code(1, 2), 11);
    }
    DayDiary x = oneDiary();
    for (int k = 23; k >= 0; k--) {
      x.line(0, 6 * k, 6 * k + 5, 1, 0, 0, 0);
    }
    StringBuilder signs = new StringBuilder("code 0 when ahead < 0;");
    for (int code = 1; code < 24; code++) {
      signs.append("code ").append(code).append(" when ahead=").append(code - 1).append(';');
    }
    CHECK.good(x, signs.toString());
    for (int k = 0; k < 24; k++) {
      CHECK.due("24 lines, each by the one ahead: " + k, x.code(0, k), k);
    }
  }

  private static void promise8AgeAndDay() {
    CHECK.sentence(8, "age, day: the DIARY's");
    for (int day = 0; day < 7; day++) {
      for (int age = 0; age < 3; age++) {
        int[] n = {day, age};
        Consumer<DayDiary> made = x -> {
          x.diary(9, 7, n[0], n[1]);
          x.diary(9, 7, 6 - n[0] == n[0] ? 0 : 6 - n[0], 2 - n[1]);
          x.line(0, 8, 12, 1, 0, 4, 0);
        };
        value(made, 0, "day", day);
        value(made, 0, "age", age);
      }
    }
  }

  private static void ofAnyLine(String e, int due) {
    value(x -> {
      x.diary(0, 0, 0, 0);
      x.line(0, 143, 143, 200, 0, 9, 0);
    }, 0, e, due);
  }

  private static void promise8NumbersAndSums() {
    CHECK.sentence(8, "SUM: PART { + or - PART }.");
    ofAnyLine("0", 0);
    ofAnyLine("9999", 9999);
    ofAnyLine("0 - 9999", -9999);
    ofAnyLine("9999 - 9999 - 1", -1);
    ofAnyLine("1 - 1 - 1", -1);
    ofAnyLine("1 - (1 - 1)", 1);
    ofAnyLine("1 - 1 + 1", 1);
    DayDiary x = oneDiary();
    x.line(0, 0, 0, 1, 0, 0, 0);
    CHECK.good(x, "code 1 when 0 < 9999" + "+9999".repeat(150) + ";");
    CHECK.due("the greatest sum stays above 0", x.code(0, 0), 1);
    CHECK.good(x, "code 2 when 0" + "-9999".repeat(150) + "< 0;");
    CHECK.due("the least one below", x.code(0, 0), 2);
    CHECK.good(x, "code 3 when 9999" + "+9999".repeat(70) + "-9999".repeat(70) + "= 9999;");
    CHECK.due("there and back", x.code(0, 0), 3);
    CHECK.good(x, "code 4 when 8192+8192+8192+8192+8192+8192+8192+8192;");
    CHECK.due("65536 is not 0", x.code(0, 0), 4);
  }

  private static void promise8And() {
    CHECK.sentence(8, "\"and\": 1 if both sides are not 0.");
    ofAnyLine("0 and 0", 0);
    ofAnyLine("0 and 1", 0);
    ofAnyLine("1 and 0", 0);
    ofAnyLine("1 and 1", 1);
    ofAnyLine("9999 and 2", 1);
    ofAnyLine("1 and 2", 1);
    ofAnyLine("4 and 2", 1);
    ofAnyLine("ahead and ahead", 1);
    ofAnyLine("1 - 2 and 2 - 1", 1);
    ofAnyLine("1 and 1 and 0", 0);
    ofAnyLine("0 and 1 and 1", 0);
    ofAnyLine("1 and 0 and 1", 0);
    ofAnyLine("3 and 3 and 3", 1);
  }

  private static void promise8LessAndEqual() {
    CHECK.sentence(8, "&lt;, = tell 1 or 0.");
    ofAnyLine("0 < 0", 0);
    ofAnyLine("0 < 1", 1);
    ofAnyLine("1 < 0", 0);
    ofAnyLine("9998 < 9999", 1);
    ofAnyLine("9999 < 9999", 0);
    ofAnyLine("0 - 1 < 0", 1);
    ofAnyLine("0 - 2 < 0 - 1", 1);
    ofAnyLine("0 - 1 < 0 - 1", 0);
    ofAnyLine("0 = 0", 1);
    ofAnyLine("0 = 1", 0);
    ofAnyLine("9999 = 9999", 1);
    ofAnyLine("0 - 1 = ahead", 1);
    ofAnyLine("1 = 0 - 1", 0);
    ofAnyLine("1 = 1 and 2 < 2", 0);
    ofAnyLine("2 = 1 + 1 and 1 + 1 = 2", 1);
  }

  private static void promise8FiveWithinOneAnother() {
    CHECK.sentence(8, "5 within one another");
    ofAnyLine("(((7)))", 7);
    DayDiary x = oneDiary();
    x.line(0, 0, 0, 1, 0, 0, 0);
    String deepest = "1 and 1 < 1 + (1 and 1 < 1 + (1 and 1 < 1 + (1 and 1 < 1 + (1 and 0 < 0 + N))))";
    CHECK.good(x, "code 1 when " + deepest.replace("N", "1") + ";");
    CHECK.due("as much as can wait, and 1", x.code(0, 0), 1);
    CHECK.good(x, "code 1 when " + deepest.replace("N", "0") + ";");
    CHECK.due("as much as can wait, and 0", x.code(0, 0), -1);
  }

  private static void promise10NoSuch() {
    CHECK.sentence(10, "-3: no such DIARY, TEN");
    CHECK.due("no diary", new DayDiary().ten(0, 0), -3);
    CHECK.due("no diary", new DayDiary().ten(-1, -1), -3);
    DayDiary x = new DayDiary();
    for (int d = 0; d < 40; d++) {
      CHECK.due("not yet", x.ten(d, 0), -3);
      x.diary(d % 10, d / 10, 0, 0);
    }
    CHECK.edges("ten(39, ten)", 0, 143, ten -> x.ten(39, ten) == -2);
    CHECK.edges("ten(diary, 143)", 0, 39, d -> x.ten(d, 143) == -2);
    for (int[] n : new int[][] {{0, 144}, {0, -1}, {4, 0}, {-1, 0}, {MAX, MAX}, {MIN, MIN}}) {
      TWINS.refused("ten(" + n[0] + ", " + n[1] + ")", Twins::madeWithTape,
          y -> y.ten(n[0], n[1]), -3);
    }
    TWINS.refused("a ten that is there", Twins::madeWithTape, y -> y.ten(0, 10), 100);
  }

  private static void dueTens(DayDiary x, int from, int to, int due) {
    for (int ten = from; ten <= to; ten++) {
      CHECK.due("ten(0, " + ten + ")", x.ten(0, ten), due);
    }
  }

  private static void promise10CodeOfItsLine() {
    CHECK.sentence(10, "the CODE of its line; -1: it has none");
    DayDiary x = oneDiary();
    x.line(0, 0, 0, 1, 0, 0, 0);
    x.line(0, 1, 142, 2, 0, 0, 0);
    x.line(0, 143, 143, 3, 0, 0, 0);
    dueTens(x, 0, 143, -1);
    CHECK.good(x, "code 0 when word 1; code 49 when word 3; mend 143;");
    dueTens(x, 0, 0, 0);
    dueTens(x, 1, 142, -1);
    dueTens(x, 143, 143, 49);
  }

  private static void promise10Gap() {
    CHECK.sentence(10, "GAPS are TENS without a line.");
    DayDiary x = oneDiary();
    CHECK.good(x, "code 0 when 1; mend 143;");
    dueTens(x, 0, 143, -2);
    DayDiary y = oneDiary();
    CHECK.good(y, "code 0 when 1; mend 143;");
    y.line(0, 0, 143, 1, 0, 0, 0);
    dueTens(y, 0, 143, 0);
    x.line(0, 70, 70, 1, 0, 0, 0);
    dueTens(x, 0, 69, -2);
    dueTens(x, 70, 70, 0);
    dueTens(x, 71, 143, -2);
  }

  /** Lines of one word at the tens 10 and 12. */
  private static DayDiary gapOfOne() {
    DayDiary x = oneDiary();
    x.line(0, 10, 10, 1, 0, 0, 0);
    x.line(0, 12, 12, 1, 0, 0, 0);
    return x;
  }

  private static void promise10TextMends() {
    CHECK.sentence(10, "A GAP is MENDED if the text mends");
    DayDiary x = gapOfOne();
    CHECK.due("no text", x.ten(0, 11), -2);
    CHECK.good(x, "code 5 when 1; mend 1;");
    CHECK.due("mend 1", x.ten(0, 11), 105);
    CHECK.good(x, "code 5 when 1;");
    CHECK.due("a text that does not", x.ten(0, 11), -2);
    x.choose(0);
    CHECK.due("mend 1 again", x.ten(0, 11), 105);
    x.choose(-1);
    CHECK.due("none in force", x.ten(0, 11), -2);
  }

  private static void promise10BetweenTwoLines() {
    CHECK.sentence(10, "it lies between two lines");
    DayDiary x = gapOfOne();
    CHECK.good(x, "code 5 when 1; mend 143;");
    dueTens(x, 0, 9, -2);
    dueTens(x, 10, 10, 5);
    dueTens(x, 11, 11, 105);
    dueTens(x, 12, 12, 5);
    dueTens(x, 13, 143, -2);
    DayDiary y = oneDiary();
    y.diary(0, 1, 0, 0);
    y.line(0, 0, 0, 1, 0, 0, 0);
    y.line(1, 143, 143, 1, 0, 0, 0);
    CHECK.good(y, "code 5 when 1; mend 143;");
    dueTens(y, 1, 143, -2);
    CHECK.due("ten(1, 142)", y.ten(1, 142), -2);
  }

  private static void promise10OfOneCode() {
    CHECK.sentence(10, "of one CODE (not -1)");
    DayDiary x = gapOfOne();
    CHECK.good(x, "mend 143;");
    CHECK.due("neither has a code", x.ten(0, 11), -2);
    CHECK.good(x, "code 0 when from = 10; mend 143;");
    CHECK.due("the second has none", x.ten(0, 11), -2);
    CHECK.good(x, "code 0 when from = 12; mend 143;");
    CHECK.due("the first has none", x.ten(0, 11), -2);
    CHECK.good(x, "code 0 when from = 10; code 1 when 1; mend 143;");
    CHECK.due("0 and 1", x.ten(0, 11), -2);
    CHECK.good(x, "code 49 when from = 10; code 48 when 1; mend 143;");
    CHECK.due("49 and 48", x.ten(0, 11), -2);
    CHECK.good(x, "code 0 when from = 10; code 0 when 1; mend 143;");
    CHECK.due("0 by one rule and 0 by another", x.ten(0, 11), 100);
    x.line(0, 14, 14, 2, 0, 0, 0);
    x.line(0, 16, 16, 1, 0, 0, 0);
    CHECK.good(x, "code 9 when word 1; mend 143;");
    dueTens(x, 11, 11, 109);
    dueTens(x, 13, 13, -2);
    dueTens(x, 14, 14, -1);
    dueTens(x, 15, 15, -2);
  }

  private static void promise10TensAtMost() {
    CHECK.sentence(10, "and has N TENS at most");
    for (int tens : new int[] {1, 2, 3, 71, 141, 142}) {
      DayDiary x = oneDiary();
      x.line(0, 0, 0, 1, 0, 0, 0);
      x.line(0, tens + 1, 143, 1, 0, 0, 0);
      CHECK.good(x, "code 5 when 1; mend " + tens + ";");
      dueTens(x, 1, tens, 105);
      CHECK.due("day(0, 2)", x.day(0, 2), tens);
      CHECK.good(x, "code 5 when 1; mend " + (tens + 1) + ";");
      CHECK.due("one more", x.ten(0, tens), 105);
      if (tens > 1) {
        CHECK.good(x, "code 5 when 1; mend " + (tens - 1) + ";");
        dueTens(x, 1, tens, -2);
        CHECK.due("day(0, 2)", x.day(0, 2), 0);
      }
    }
    DayDiary x = oneDiary();
    x.line(0, 0, 0, 1, 0, 0, 0);
    x.line(0, 3, 3, 1, 0, 0, 0);
    x.line(0, 7, 7, 1, 0, 0, 0);
    CHECK.good(x, "code 5 when 1; mend 2;");
    dueTens(x, 1, 2, 105);
    dueTens(x, 4, 6, -2);
    x.line(0, 5, 5, 1, 0, 0, 0);
    dueTens(x, 4, 4, 105);
    dueTens(x, 6, 6, 105);
  }

  private static void promise10CountAsOfThatCode() {
    CHECK.sentence(10, "its TENS count as of that CODE. The others stay GAPS.");
    DayDiary x = gapOfOne();
    x.line(0, 15, 15, 1, 0, 0, 0);
    CHECK.good(x, "code 49 when 1; mend 1;");
    dueTens(x, 11, 11, 149);
    dueTens(x, 13, 14, -2);
    CHECK.due("as of 49", x.cell(49, 3, false), 1);
    CHECK.due("those of lines are others", x.cell(49, 0, false), 3);
    CHECK.due("day(0, 2)", x.day(0, 2), 1);
    CHECK.due("next across the one, not the other", x.next(49, 49), 1);
    CHECK.good(x, "code 49 when 1; mend 2;");
    dueTens(x, 13, 14, 149);
    CHECK.due("as of 49", x.cell(49, 3, false), 3);
  }

  private static void promise10HundredAndCode() {
    CHECK.sentence(10, "100 + CODE: a GAP MENDED; -2: a GAP");
    for (int code = 0; code < 50; code++) {
      DayDiary x = gapOfOne();
      CHECK.good(x, "code " + code + " when 1; mend 1;");
      CHECK.due("code " + code + ": ten(0, 10)", x.ten(0, 10), code);
      CHECK.due("code " + code + ": ten(0, 11)", x.ten(0, 11), 100 + code);
      CHECK.due("code " + code + ": ten(0, 13)", x.ten(0, 13), -2);
    }
  }
}
