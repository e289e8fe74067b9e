/** Promises 5 to 7: the tape, the texts and their faults, and which text is in force. */
public final class TextsTest {
  private static final Check CHECK = new Check();

  public static void main(String[] args) {
    promise5Feed();
    promise5EightHundredSigns();
    promise6TakesTheTape();
    promise6EightTexts();
    promise6Tokens();
    promise6WhatCannotStand();
    promise6Numbers();
    promise6TooMany();
    promise6TheFirstAndTheLeast();
    promise7Choose();
    CHECK.end("TextsTest");
  }

  private static void promise5Feed() {
    DayDiary x = new DayDiary();
    CHECK.due("feed(0, 0, 0)", x.feed(0, 0, 0), 0);
    CHECK.due("feed of 24 signs", x.feed(0x2020202020202020L, 0x2020202020202020L,
        0x2020202020202020L), 24);
    CHECK.due("bytes of 255", x.feed(-1L, -1L, -1L), 24);
    CHECK.due("10, 11, 31, 32, 126, 127, 128, 9", x.feed(0x0a0b1f207e7f8009L, 0, 0), 27);
    CHECK.due("count(3)", x.count(3), 27);
    x.text();
    CHECK.due("count(3) behind text()", x.count(3), 0);
    // "code 3 w", "hen 4;", with signs between that are left out
    x.feed(0x636f646520332077L, 0x68656e00203401ffL, 0x3bL);
    CHECK.due("the highest byte comes first", x.text(), 0);
    CHECK.due("count(5)", x.count(5), 1);
    x.feed(0x3bL, 0x63L << 56, 0);
    CHECK.due("a comes ahead of b", x.text(), 1);
  }

  private static void promise5EightHundredSigns() {
    DayDiary x = new DayDiary();
    String tail = "mend 9;";
    StringBuilder signs = new StringBuilder();
    for (int i = 0; i < 800 - tail.length(); i++) {
      signs.append(' ');
    }
    signs.append(tail);
    CHECK.due("800 signs", Check.feed(x, signs.toString()), 800);
    CHECK.due("one more", x.feed('x', 0, 0), 800);
    CHECK.due("24 more", Check.feed(x, "xxxxxxxxxxxxxxxxxxxxxxxx"), 800);
    CHECK.due("text() without the signs beyond 800", x.text(), 0);
    signs.setLength(790);
    CHECK.due("790 signs", Check.feed(x, signs.toString()), 790);
    CHECK.due("12 more", Check.feed(x, "xxxxxxxxxxxx"), 800);
    CHECK.due("a fault there", x.text(), 1 + 16 * 790);
    signs.setLength(0);
    for (int i = 0; i < 800; i++) {
      signs.append(';');
    }
    CHECK.due("800 semicolons", Check.text(x, signs.toString()), 1);
    CHECK.due("the end at 800", Check.text(x, blanks(790) + "code  when"), 1 + 16 * 796);
    CHECK.due("the end at 800", Check.text(x, blanks(789) + "code 1 when"), 1 + 16 * 800);
  }

  private static String blanks(int n) {
    return " ".repeat(n);
  }

  private static void promise6TakesTheTape() {
    DayDiary x = new DayDiary();
    CHECK.good(x, "code 1 when 1;");
    CHECK.due("a fault", Check.text(x, "code 1 when 1"), 1 + 16 * 13);
    CHECK.due("the tape is taken", x.count(3), 0);
    CHECK.due("a faulty text is none", x.count(1), 1);
    CHECK.due("text 0 stays in force", x.count(2), 0);
    CHECK.good(x, "");
    CHECK.due("an empty text is one", x.count(1), 2);
    CHECK.due("and in force", x.count(2), 1);
    CHECK.good(x, " \n \n");
    x.choose(0);
    CHECK.due("a fault", Check.text(x, "("), 1);
    CHECK.due("what was chosen stays in force", x.count(2), 0);
    CHECK.good(x, "mend 1;");
    CHECK.due("the latest is in force", x.count(2), 3);
  }

  private static void promise6EightTexts() {
    DayDiary x = new DayDiary();
    for (int i = 0; i < 8; i++) {
      CHECK.good(x, "code " + i + " when 1;");
    }
    x.choose(3);
    CHECK.due("a ninth text", Check.text(x, "code 1 when 1;"), -1);
    CHECK.due("its tape", x.count(3), 0);
    CHECK.due("a ninth, faulty text", Check.text(x, "?"), -1);
    CHECK.due("texts", x.count(1), 8);
    CHECK.due("in force", x.count(2), 3);
  }

  private static void promise6Tokens() {
    DayDiary x = new DayDiary();
    CHECK.good(x, "code1when1;");
    CHECK.good(x, "code1when1and(2<3)=4+5-6and word7and second8and next9;mend143;");
    CHECK.good(x, "\ncode\n0049 \n when\nplace and with and from and long and ahead and age and day;");
    CHECK.good(x, "code 1 when 0001and 9999;");
    CHECK.fault("code 1 when wordword 1;", 12, 1);
    CHECK.fault("code 1 when abcdefghi;", 12, 1);
    CHECK.fault("code 1 when placeplace;", 12, 1);
    CHECK.fault("code 1 when 12345;", 12, 1);
    CHECK.fault("code 1 when 00001;", 12, 1);
    CHECK.fault("code 00001 when 1;", 5, 1);
    CHECK.fault("code 1 when Place;", 12, 1);
    CHECK.fault("code 1 when 1 > 2;", 14, 1);
    CHECK.fault("code 1 when 1 * 2;", 14, 1);
    CHECK.fault("code 1 when pl ace;", 12, 1);
    CHECK.fault("code 1 when plac;", 12, 1);
    CHECK.fault("code 1 when places;", 12, 1);
    for (String name : new String[] {"place", "with", "from", "long", "ahead", "age", "day"}) {
      CHECK.good(new DayDiary(), "code 1 when " + name + ";");
      for (int i = 0; i < name.length(); i++) {
        String other = name.substring(0, i) + "z" + name.substring(i + 1);
        CHECK.fault("code 1 when " + other + ";", 12, 1);
      }
    }
    CHECK.fault("node 1 when 1;", 0, 1);
    CHECK.fault("code 1 then 1;", 7, 1);
    CHECK.fault("bend 1;", 0, 1);
    CHECK.fault("code 1 when ford 1;", 12, 1);
    CHECK.fault("code 1 when beckon 1;", 12, 1);
    CHECK.fault("code 1 when text 1;", 12, 1);
    CHECK.fault("code 1 when 1 end 1;", 14, 1);
    CHECK.fault("codewhen", 0, 1);
    CHECK.fault("code 1 when word\n2 3;", 19, 1);
  }

  private static void promise6WhatCannotStand() {
    CHECK.fault("when", 0, 1);
    CHECK.fault(" ;", 1, 1);
    CHECK.fault("code", 4, 1);
    CHECK.fault("code  ", 6, 1);
    CHECK.fault("code ;", 5, 1);
    CHECK.fault("code 1 ;", 7, 1);
    CHECK.fault("code 1 1", 7, 1);
    CHECK.fault("code 1 when ;", 12, 1);
    CHECK.fault("code 1 when", 11, 1);
    CHECK.fault("code 1 when 1", 13, 1);
    CHECK.fault("code 1 when 1 1;", 14, 1);
    CHECK.fault("code 1 when -1;", 12, 1);
    CHECK.fault("code 1 when 1 + ;", 16, 1);
    CHECK.fault("code 1 when 1 and;", 17, 1);
    CHECK.fault("code 1 when and 1;", 12, 1);
    CHECK.fault("code 1 when 1 = 1 = 1;", 18, 1);
    CHECK.fault("code 1 when 1 = 1 < 1;", 18, 1);
    CHECK.fault("code 1 when (1;", 14, 1);
    CHECK.fault("code 1 when 1);", 13, 1);
    CHECK.fault("code 1 when ();", 13, 1);
    CHECK.fault("code 1 when (1 < 2 < 3);", 19, 1);
    CHECK.fault("code 1 when word;", 16, 1);
    CHECK.fault("code 1 when word (1);", 17, 1);
    CHECK.fault("code 1 when second place;", 19, 1);
    CHECK.fault("code 1 when place 1;", 18, 1);
    CHECK.fault("code 1 when code;", 12, 1);
    CHECK.fault("code 1 when mend;", 12, 1);
    CHECK.fault("mend", 4, 1);
    CHECK.fault("mend;", 4, 1);
    CHECK.fault("mend 1", 6, 1);
    CHECK.fault("mend 1; mend 1;", 8, 1);
    CHECK.fault("mend 1; code 1 when 1;", 8, 1);
    CHECK.fault("mend 1;;", 7, 1);
    CHECK.fault("code 1 when 1;;", 14, 1);
    CHECK.fault("mend 1 when 1;", 7, 1);
    DayDiary x = new DayDiary();
    CHECK.good(x, "code 1 when (1 = 1) = 1;");
    CHECK.good(x, "code 1 when 1 = (1 < 1) and 1 < 2 and 2 = 3;");
    CHECK.good(x, "code 1 when 1 + 1 < 1 - 1;");
  }

  private static void promise6Numbers() {
    DayDiary x = new DayDiary();
    CHECK.good(x, "code 0 when word 1; code 49 when word 200; mend 1;");
    CHECK.good(x, "code 0 when second 1; code 49 when second 200; mend 143;");
    CHECK.good(x, "code 0 when next 1; code 49 when next 200 + 9999 + 0;");
    CHECK.fault("code 50 when 1;", 5, 4);
    CHECK.fault("code 9999 when 1;", 5, 4);
    for (String name : new String[] {"word", "second", "next"}) {
      int place = 13 + name.length();
      CHECK.fault("code 1 when " + name + " 0;", place, 4);
      CHECK.fault("code 1 when " + name + " 201;", place, 4);
      CHECK.fault("code 1 when " + name + " 20100;", place, 1);
    }
    CHECK.fault("mend 0;", 5, 4);
    CHECK.fault("mend 144;", 5, 4);
  }

  private static void promise6TooMany() {
    DayDiary x = new DayDiary();
    String rule = "code 1 when 1;";
    CHECK.good(x, rule.repeat(24));
    CHECK.due("count(5)", x.count(5), 24);
    CHECK.good(x, rule.repeat(24) + "mend 1;");
    CHECK.fault(rule.repeat(25), 24 * 14, 5);
    CHECK.fault(rule.repeat(24) + "code", 24 * 14, 5);
    CHECK.fault(rule.repeat(24) + "when", 24 * 14, 1);
    CHECK.fault(rule.repeat(24) + ";", 24 * 14, 1);
    CHECK.good(x, "code 1 when ((((1))));");
    CHECK.good(x, "code 1 when ((((1)))) + ((((word 3))));");
    CHECK.fault("code 1 when (((((1)))));", 17, 5);
    CHECK.fault("code 1 when (((((place)))));", 17, 5);
    CHECK.fault("code 1 when (((((word 0)))));", 17, 5);
    CHECK.fault("code 1 when ((((((1))))));", 17, 5);
    CHECK.fault("code 1 when (((((;", 17, 1);
    CHECK.fault("code 1 when (((((", 17, 1);
    CHECK.fault("code 1 when (((((and", 17, 1);
    CHECK.fault("code 1 when (((((12345", 17, 1);
    CHECK.fault("code 1 when ((((1)))) + (((((1)))));", 29, 5);
  }

  private static void promise6TheFirstAndTheLeast() {
    CHECK.fault("code 50 when ?;", 5, 4);
    CHECK.fault("code 1 when word 0 ?", 17, 4);
    CHECK.fault("? code 50", 0, 1);
    CHECK.fault("code 1 when 1; mend 0; code", 20, 4);
    CHECK.fault("code 1 when 1 1 1 12345", 14, 1);
  }

  private static void promise7Choose() {
    DayDiary x = new DayDiary();
    x.diary(0, 0, 0, 0);
    x.line(0, 0, 0, 1, 0, 0, 0);
    CHECK.due("choose(NONE) without texts", x.choose(-1), true);
    CHECK.due("choose(0) without texts", x.choose(0), false);
    CHECK.good(x, "code 10 when 1;");
    CHECK.good(x, "code 11 when 1;");
    CHECK.due("the latest", x.code(0, 0), 11);
    CHECK.due("choose(0)", x.choose(0), true);
    CHECK.due("text 0", x.code(0, 0), 10);
    CHECK.due("choose(2)", x.choose(2), false);
    CHECK.due("choose(-2)", x.choose(-2), false);
    CHECK.due("choose(MIN)", x.choose(Integer.MIN_VALUE), false);
    CHECK.due("choose(MAX)", x.choose(Integer.MAX_VALUE), false);
    CHECK.due("still text 0", x.code(0, 0), 10);
    CHECK.due("choose(NONE)", x.choose(DayDiary.NONE), true);
    CHECK.due("none", x.code(0, 0), -1);
    CHECK.due("choose(1)", x.choose(1), true);
    CHECK.due("text 1", x.code(0, 0), 11);
  }
}
