import java.util.function.Consumer;

/** The boundary cases of promises 5 to 7: the tape, its tokens, texts and their faults. */
public final class EdgesOfTextsTest {
  private static final Check CHECK = new Check();
  private static final Twins TWINS = new Twins(CHECK);
  private static final String RULE = "code 1 when 1;";

  public static void main(String[] args) {
    promise5UpTo24Signs();
    promise5TheHighestFirst();
    promise5OthersAreLeftOut();
    promise5SignsOfTheTape();
    promise5BeyondEightHundred();
    promise5HowManyThereAre();
    promise6EightAtMost();
    promise6NumberedAsTheyCome();
    promise6InForceIsTheLatest();
    promise6ReadingTakesTheTape();
    promise6EmptyAtEightToo();
    promise6AsLongAsCanBe();
    promise6BlanksBetween();
    promise6WordsOfEightLetters();
    promise6EachLetterCounts();
    promise6NumbersOfFourDigits();
    promise6ALetterRightBehind();
    promise6Signs();
    promise6TwentyFourRules();
    promise6MendAtTheEnd();
    promise6AnyMore();
    promise6NumberOfCode();
    promise6NumbersOfWords();
    promise6NumberOfMend();
    promise6NumberAlone();
    promise6NotAsTold();
    promise6PlaceOfAToken();
    promise6TheEndIsAToken();
    promise6TheFirstFromTheLeft();
    promise6TheLeast();
    promise6NoneOrCannotStand();
    promise6TwentyFifthRule();
    promise6WithinFiveOthers();
    promise6FaultChangesNothing();
    promise7Texts();
    promise7None();
    promise7RefusedChangesNothing();
    CHECK.end("EdgesOfTextsTest");
  }

  private static String blanks(int n) {
    return " ".repeat(n);
  }

  private static void goodAlone(String signs) {
    CHECK.good(new DayDiary(), signs);
  }

  private static int answer(String signs) {
    return Check.text(new DayDiary(), signs);
  }

  private static void promise5UpTo24Signs() {
    CHECK.sentence(5, "Up to 24 signs come behind the TAPE");
    CHECK.due("none", new DayDiary().feed(0, 0, 0), 0);
    for (int n = 1; n <= 24; n++) {
      String signs = "x".repeat(n);
      CHECK.due(n + " signs", new DayDiary().feed(Check.eight(signs, 0), Check.eight(signs, 8),
          Check.eight(signs, 16)), n);
    }
    DayDiary x = new DayDiary();
    Check.feed(x, "code 1 w");
    Check.feed(x, "hen 1;");
    CHECK.due("behind what is there", x.text(), 0);
  }

  private static void promise5TheHighestFirst() {
    CHECK.sentence(5, "the bytes of a, b, c, of each the highest first");
    for (int at = 0; at < 24; at++) {
      String signs = blanks(at) + "?" + blanks(23 - at);
      DayDiary x = new DayDiary();
      x.feed(Check.eight(signs, 0), Check.eight(signs, 8), Check.eight(signs, 16));
      CHECK.due("a wrong sign at " + at, x.text(), 1 + 16 * at);
    }
  }

  private static void promise5OthersAreLeftOut() {
    CHECK.sentence(5, "others than 10 and 32 .. 126");
    for (int sign = 0; sign < 256; sign++) {
      int due = sign == 10 || sign >= 32 && sign <= 126 ? 1 : 0;
      for (int shift = 0; shift < 64; shift += 8) {
        long bytes = (long) sign << shift;
        CHECK.due("sign " + sign + " in a", new DayDiary().feed(bytes, 0, 0), due);
        CHECK.due("sign " + sign + " in b", new DayDiary().feed(0, bytes, 0), due);
        CHECK.due("sign " + sign + " in c", new DayDiary().feed(0, 0, bytes), due);
      }
    }
    CHECK.due("all bits", new DayDiary().feed(-1L, -1L, -1L), 0);
    CHECK.due("the highest bits", new DayDiary().feed(Long.MIN_VALUE, Long.MIN_VALUE,
        Long.MIN_VALUE), 0);
    CHECK.due("all bits but the highest", new DayDiary().feed(Long.MAX_VALUE, 0, 0), 0);
    CHECK.due("a byte of 128 ahead of seven blanks", new DayDiary().feed(0x8020202020202020L, 0, 0),
        7);
    CHECK.sentence(5, "are left out");
    DayDiary x = new DayDiary();
    CHECK.due("between letters and digits", x.feed(0x63006f7f6480651fL, 0x203409337768L << 16,
        0x656eff2031013b00L), 14);
    CHECK.due("they part no token", x.text(), 0);
    CHECK.due("one rule", x.count(5), 1);
  }

  private static void promise5SignsOfTheTape() {
    CHECK.sentence(5, "The TAPE has at most 800 signs, 10 and 32 .. 126");
    for (char sign : new char[] {10, 32, 126}) {
      DayDiary x = new DayDiary();
      CHECK.due("none yet", x.count(3), 0);
      String signs = String.valueOf(sign);
      CHECK.due("800 signs", Check.feed(x, signs.repeat(800)), 800);
      CHECK.due("one more", Check.feed(x, signs), 800);
      CHECK.due("count(3)", x.count(3), 800);
    }
    for (char sign : new char[] {9, 11, 31, 127}) {
      DayDiary x = new DayDiary();
      CHECK.due("48 others", Check.feed(x, String.valueOf(sign).repeat(48)), 0);
      CHECK.due("leave a text of none", x.text(), 0);
    }
  }

  private static void promise5BeyondEightHundred() {
    CHECK.sentence(5, "what is beyond 800, are left out");
    for (int there : new int[] {776, 777, 799, 800}) {
      DayDiary x = new DayDiary();
      CHECK.due(there + " signs", Check.feed(x, blanks(there)), there);
      CHECK.due("24 more", Check.feed(x, blanks(24)), 800);
      CHECK.due("and one more", x.feed(0, 0, '?'), 800);
      CHECK.due("text()", x.text(), 0);
    }
    DayDiary x = new DayDiary();
    Check.feed(x, blanks(798));
    CHECK.due("the first of them are kept", Check.feed(x, " ? ?"), 800);
    CHECK.due("text()", x.text(), 1 + 16 * 799);
    Check.feed(x, blanks(799));
    CHECK.due("a sign left out takes no room", x.feed(127, 9, 200), 799);
    CHECK.due("the 800th", x.feed(0, 0, ';'), 800);
    CHECK.due("its fault", x.text(), 1 + 16 * 799);
    Check.feed(x, blanks(800));
    x.text();
    CHECK.due("there is room again", Check.feed(x, blanks(24)), 24);
  }

  private static void promise5HowManyThereAre() {
    CHECK.sentence(5, "how many there are");
    DayDiary x = new DayDiary();
    for (int signs = 24; signs <= 792; signs += 24) {
      CHECK.due("feed", x.feed(0x2020202020202020L, 0x0a0a0a0a0a0a0a0aL, 0x7e7e7e7e7e7e7e7eL),
          signs);
      CHECK.due("count(3)", x.count(3), signs);
    }
    CHECK.due("no more", x.feed(0, 0, 0), 792);
  }

  private static void promise6EightAtMost() {
    CHECK.sentence(6, "TEXTS, 8 at most");
    DayDiary x = new DayDiary();
    for (int i = 0; i < 8; i++) {
      CHECK.due("texts", x.count(1), i);
      CHECK.due("a fault is no text", Check.text(x, "code"), 1 + 16 * 4);
      CHECK.good(x, "code " + i + " when 1;");
    }
    CHECK.sentence(6, "-1: 8 are there");
    CHECK.due("a ninth", Check.text(x, "code 9 when 1;"), -1);
    CHECK.due("a ninth that is empty", x.text(), -1);
    CHECK.due("a ninth with a fault", Check.text(x, "code"), -1);
    CHECK.due("texts", x.count(1), 8);
    CHECK.due("in force", x.count(2), 7);
  }

  private static void promise6NumberedAsTheyCome() {
    CHECK.sentence(6, "numbered as they come");
    DayDiary x = new DayDiary();
    x.diary(0, 0, 0, 0);
    x.line(0, 0, 0, 1, 0, 0, 0);
    for (int i = 0; i < 8; i++) {
      Check.text(x, ";");
      x.choose(0);
      Check.text(x, "code " + (40 + i) + " when 1;");
      CHECK.due("its number", x.count(2), i);
    }
    for (int i = 7; i >= 0; i--) {
      CHECK.due("choose(" + i + ")", x.choose(i), true);
      CHECK.due("text " + i, x.code(0, 0), 40 + i);
    }
  }

  private static void promise6InForceIsTheLatest() {
    CHECK.sentence(6, "in force is the latest (or one that was chosen)");
    DayDiary x = new DayDiary();
    CHECK.due("nothing yet", x.count(2), -1);
    Check.text(x, RULE);
    CHECK.due("the first", x.count(2), 0);
    Check.text(x, "");
    CHECK.due("the latest, though it is empty", x.count(2), 1);
    x.choose(0);
    CHECK.due("the chosen one", x.count(2), 0);
    Check.text(x, "code 1 when;");
    CHECK.due("a fault leaves it so", x.count(2), 0);
    CHECK.due("with its rule", x.count(5), 1);
    x.choose(-1);
    Check.text(x, "code 1 when;");
    CHECK.due("or leaves none", x.count(2), -1);
    Check.text(x, RULE + RULE);
    CHECK.due("the latest again", x.count(2), 2);
    CHECK.due("with its rules", x.count(5), 2);
  }

  private static void promise6ReadingTakesTheTape() {
    CHECK.sentence(6, "what reads it takes it: it is empty then");
    DayDiary x = new DayDiary();
    Check.feed(x, RULE);
    x.text();
    CHECK.due("behind a text", x.count(3), 0);
    CHECK.due("nothing on the tape is a text", x.text(), 0);
    CHECK.due("of no rules", x.count(5), 0);
    CHECK.due("one sign", Check.feed(x, ";"), 1);
    CHECK.due("which is wrong", x.text(), 1);
    CHECK.due("behind a fault", x.count(3), 0);
    CHECK.due("again nothing", x.text(), 0);
    CHECK.due("two signs", Check.feed(x, "  "), 2);
    CHECK.due("blanks alone", x.text(), 0);
    CHECK.due("behind them", x.count(3), 0);
    Check.feed(x, blanks(800));
    CHECK.due("a full tape", x.text(), 0);
    CHECK.due("behind it", x.count(3), 0);
  }

  private static void eightTexts(DayDiary x) {
    x.diary(0, 0, 0, 0);
    x.line(0, 0, 9, 1, 0, 0, 0);
    x.line(0, 11, 19, 2, 1, 0, 0);
    for (int i = 0; i < 8; i++) {
      Check.text(x, "code " + (i == 5 ? 7 : i) + " when word " + (1 + i % 2) + ";mend 1;");
    }
    x.choose(3);
  }

  private static void promise6EmptyAtEightToo() {
    CHECK.sentence(6, "(the TAPE is empty then, too)");
    for (String signs : new String[] {RULE, "", "?", blanks(800), "code 1 when"}) {
      DayDiary x = new DayDiary();
      eightTexts(x);
      Check.feed(x, signs);
      CHECK.due("signs wait", x.count(3), signs.length());
      CHECK.due("a ninth text", x.text(), -1);
      CHECK.due("the tape", x.count(3), 0);
      CHECK.due("signs come anew", Check.feed(x, "code"), 4);
    }
    Consumer<DayDiary> made = EdgesOfTextsTest::eightTexts;
    TWINS.refused("a ninth text", made, x -> Check.text(x, "code 9 when 1; mend 9;"), -1);
    TWINS.refused("a ninth text, faulty", made, x -> Check.text(x, "code 50"), -1);
    TWINS.refused("a ninth text, empty", made, DayDiary::text, -1);
  }

  private static void promise6AsLongAsCanBe() {
    CHECK.sentence(6, "TOKENS, each as long as can be");
    CHECK.fault("code 1 when placewith;", 12, 1);
    CHECK.fault("code 1 when dayday;", 12, 1);
    CHECK.fault("code 1 when agea;", 12, 1);
    CHECK.fault("codecode 1 when 1;", 0, 1);
    CHECK.fault("code 1 whenday;", 7, 1);
    CHECK.fault("code 1 when 1 andday;", 14, 1);
    CHECK.fault("code 491 when 1;", 5, 4);
    CHECK.fault("code 1 when word 2001;", 17, 4);
    CHECK.fault("mend 1430;", 5, 4);
  }

  private static void promise6BlanksBetween() {
    CHECK.sentence(6, "blanks (10, 32) between where one likes");
    goodAlone("code1when1;");
    goodAlone("code1when(1<2)and(place)=with;mend1;");
    goodAlone(" \n code \n 1 \n when \n ( \n 1 \n < \n 2 \n ) \n ; \n mend \n 1 \n ; \n ");
    goodAlone(blanks(786) + RULE);
    goodAlone(RULE + blanks(786));
    CHECK.fault("co de 1 when 1;", 0, 1);
    CHECK.fault("code 1 wh\nen 1;", 7, 1);
    CHECK.fault("code 1 1 when 1;", 7, 1);
    CHECK.fault("code 1\n1 when 1;", 7, 1);
  }

  private static void promise6WordsOfEightLetters() {
    CHECK.sentence(6, "WORDS (letters a .. z, 8 at most)");
    CHECK.sentence(6, "All else (a longer WORD or NUMBER, too, at its first sign) is none.");
    for (String word : new String[] {"a", "z", "abcdefgh", "abcdefghi", "zzzzzzzz", "zzzzzzzzz",
        "placeplac", "placeplace", "secondword", "wordwordword"}) {
      CHECK.fault("code 1 when " + word + ";", 12, 1);
      CHECK.fault("code 1 when place + " + word + " 1;", 20, 1);
      CHECK.fault(word + "1when 1;", 0, 1);
    }
    String letters = "abcdefghijklmnopqrstuvwxyz";
    for (int i = 0; i < 26; i++) {
      CHECK.fault("code 1 when place" + letters.charAt(i) + ";", 12, 1);
      CHECK.fault("code 1 when " + letters.charAt(i) + "place;", 12, 1);
    }
    for (char beside : new char[] {'`', '{', '@', '[', '_', 'A', 'Z'}) {
      CHECK.fault("code 1 when place" + beside + ";", 17, 1);
      CHECK.fault("code 1 when " + beside + "place;", 12, 1);
    }
    CHECK.fault("Code 1 when 1;", 0, 1);
    CHECK.fault("codE 1 when 1;", 0, 1);
  }

  /** A word that differs in a letter, or has one less or more, is another one. */
  private static void promise6EachLetterCounts() {
    CHECK.sentence(6, "code N when E ;");
    String[][] known = {{"", "code", " 1 when 1;"}, {"code 1 ", "when", " 1;"}, {"", "mend", " 1;"},
        {"code 1 when 1 ", "and", " 1;"}, {"code 1 when ", "word", " 1;"},
        {"code 1 when ", "second", " 1;"}, {"code 1 when ", "next", " 1;"},
        {"code 1 when ", "place", ";"}, {"code 1 when ", "with", ";"}, {"code 1 when ", "from", ";"},
        {"code 1 when ", "long", ";"}, {"code 1 when ", "ahead", ";"}, {"code 1 when ", "age", ";"},
        {"code 1 when ", "day", ";"}};
    for (String[] k : known) {
      goodAlone(k[0] + k[1] + k[2]);
      for (int i = 0; i < k[1].length(); i++) {
        String ahead = k[1].substring(0, i);
        String behind = k[1].substring(i + 1);
        CHECK.fault(k[0] + ahead + "z" + behind + k[2], k[0].length(), 1);
        CHECK.fault(k[0] + ahead + behind + k[2], k[0].length(), 1);
        CHECK.fault(k[0] + ahead + "a" + k[1].substring(i) + k[2], k[0].length(), 1);
      }
    }
  }

  private static void promise6NumbersOfFourDigits() {
    CHECK.sentence(6, "NUMBERS (1 to 4 digits");
    for (String number : new String[] {"0", "9", "00", "99", "000", "999", "0000", "9999"}) {
      goodAlone("code 1 when " + number + ";");
    }
    for (String number : new String[] {"00000", "00001", "10000", "99999", "123456789"}) {
      CHECK.fault("code 1 when " + number + ";", 12, 1);
      CHECK.fault("code 1 when word " + number + ";", 17, 1);
      CHECK.fault("code " + number + " when 1;", 5, 1);
      CHECK.fault("mend " + number + ";", 5, 1);
    }
    for (char beside : new char[] {'/', ':', '.', ','}) {
      CHECK.fault("code 1 when 1" + beside + ";", 13, 1);
      CHECK.fault("code 1 when " + beside + "1;", 12, 1);
    }
    for (char digit = '0'; digit <= '9'; digit++) {
      DayDiary x = new DayDiary();
      x.diary(0, 0, 0, 0);
      x.line(0, 0, 0, 1, 0, digit - '0', 0);
      CHECK.good(x, "code 0" + digit + " when place = " + digit + ";");
      CHECK.due("digit " + digit, x.code(0, 0), digit - '0');
    }
  }

  private static void promise6ALetterRightBehind() {
    CHECK.sentence(6, "a letter may stand right behind");
    goodAlone("code 1when 1and 2and 9999and 0;");
    goodAlone("code 49when word 200and second 200and next 200;");
    CHECK.fault("code 1x when 1;", 6, 1);
    CHECK.fault("code 1 when 1a;", 13, 1);
    CHECK.fault("code 1 when 12345and 1;", 12, 1);
    CHECK.fault("mend 1mend;", 6, 1);
  }

  private static void promise6Signs() {
    CHECK.sentence(6, "the signs ( ) &lt; = + - and the semicolon.");
    for (int sign = 33; sign <= 126; sign++) {
      String signs = "code 1 when 1 " + (char) sign + " 1;";
      if ("+-<=".indexOf(sign) >= 0) {
        goodAlone(signs);
      } else {
        CHECK.fault(signs, sign == ';' ? 16 : 14, 1);
      }
    }
    goodAlone("code 1 when (1);");
    CHECK.fault("code 1 when &lt;;", 12, 1);
    CHECK.fault("code 1 when 1 == 1;", 15, 1);
    CHECK.fault("code 1 when 1 <= 1;", 15, 1);
    CHECK.fault("code 1 when 1 ++ 1;", 15, 1);
  }

  private static void promise6TwentyFourRules() {
    CHECK.sentence(6, "TEXT: 24 rules at most");
    for (int rules : new int[] {0, 1, 23, 24}) {
      DayDiary x = new DayDiary();
      CHECK.good(x, RULE.repeat(rules));
      CHECK.due("rules", x.count(5), rules);
      CHECK.good(x, RULE.repeat(rules) + "mend 1;");
      CHECK.due("mend is no rule", x.count(5), rules);
    }
    CHECK.fault(RULE.repeat(25), 24 * RULE.length(), 5);
    CHECK.fault(RULE.repeat(25) + "mend 1;", 24 * RULE.length(), 5);
    CHECK.fault(RULE.repeat(57), 24 * RULE.length(), 5);
  }

  private static void promise6MendAtTheEnd() {
    CHECK.sentence(6, "and perhaps, at the end, mend N ;");
    goodAlone("mend 1;");
    goodAlone(RULE + "mend 1;");
    CHECK.fault("mend 1;" + RULE, 7, 1);
    CHECK.fault("mend 1;mend 1;", 7, 1);
    CHECK.fault(RULE + "mend 1;" + RULE, 21, 1);
    CHECK.fault("mend 1;;", 7, 1);
    CHECK.fault("mend 1; 1", 8, 1);
    CHECK.fault("mend 1", 6, 1);
    CHECK.fault("mend", 4, 1);
    CHECK.fault("mend;", 4, 1);
    CHECK.fault("mend (1);", 5, 1);
  }

  private static void promise6AnyMore() {
    CHECK.sentence(6, "E: TEST { and TEST }.");
    goodAlone("code 1 when 1" + "and 1".repeat(100) + ";");
    CHECK.fault("code 1 when 1 and;", 17, 1);
    CHECK.fault("code 1 when and 1;", 12, 1);
    CHECK.fault("code 1 when 1 and and 1;", 18, 1);
    CHECK.sentence(6, "TEST: SUM [ &lt; SUM or = SUM ].");
    goodAlone("code 1 when 1 < 2 and 1 = 2 and 3;");
    CHECK.fault("code 1 when 1 < 2 < 3;", 18, 1);
    CHECK.fault("code 1 when 1 < 2 = 3;", 18, 1);
    CHECK.fault("code 1 when 1 = 2 < 3;", 18, 1);
    CHECK.fault("code 1 when 1 = 2 = 3;", 18, 1);
    CHECK.fault("code 1 when 1 = ;", 16, 1);
    CHECK.fault("code 1 when < 1;", 12, 1);
    goodAlone("code 1 when (1 < 2) < 3 and 1 = (2 = 3);");
    CHECK.sentence(6, "SUM: PART { + or - PART }.");
    goodAlone("code 1 when 1" + "+1-1".repeat(150) + ";");
    CHECK.fault("code 1 when 1 +;", 15, 1);
    CHECK.fault("code 1 when - 1;", 12, 1);
    CHECK.fault("code 1 when + 1;", 12, 1);
    CHECK.fault("code 1 when 1 - - 1;", 16, 1);
    CHECK.sentence(6, "( E )");
    CHECK.fault("code 1 when ();", 13, 1);
    CHECK.fault("code 1 when (1;", 14, 1);
    CHECK.fault("code 1 when 1);", 13, 1);
    CHECK.fault("code 1 when (1));", 15, 1);
  }

  private static void numbers(String ahead, String behind, int least, int most) {
    CHECK.edges(ahead + "N" + behind, least, most, n -> {
      if (n < 0 || n > 9999) {
        return false;
      }
      int answer = answer(ahead + n + behind);
      CHECK.due(ahead + n + behind, answer,
          least <= n && n <= most ? 0 : 4 + 16 * ahead.length());
      return answer == 0;
    });
    for (int n = most + 1; n <= 9999; n += 97) {
      CHECK.fault(ahead + n + behind, ahead.length(), 4);
    }
    CHECK.fault(ahead + 9999 + behind, ahead.length(), 4);
    CHECK.fault(ahead + 10000 + behind, ahead.length(), 1);
    CHECK.fault(ahead + "-1" + behind, ahead.length(), 1);
  }

  private static void promise6NumberOfCode() {
    CHECK.sentence(6, "N of code 0 .. 49");
    numbers("code ", " when 1;", 0, 49);
    goodAlone("code 0000 when 1; code 0049 when 1;");
    CHECK.fault("code 0050 when 1;", 5, 4);
    CHECK.fault(RULE.repeat(23) + "code 50 when 1;", 23 * RULE.length() + 5, 4);
  }

  private static void promise6NumbersOfWords() {
    CHECK.sentence(6, "of word, second, next 1 .. 200");
    for (String name : new String[] {"word", "second", "next"}) {
      numbers("code 1 when " + name + " ", ";", 1, 200);
      goodAlone("code 1 when " + name + " 0001 and " + name + " 0200;");
      CHECK.fault("code 1 when " + name + " 0000;", 13 + name.length(), 4);
      CHECK.fault("code 1 when " + name + ";", 12 + name.length(), 1);
      CHECK.fault("code 1 when " + name + " place;", 13 + name.length(), 1);
    }
  }

  private static void promise6NumberOfMend() {
    CHECK.sentence(6, "of mend 1 .. 143");
    numbers("mend ", ";", 1, 143);
    goodAlone("mend 0001;");
    CHECK.fault("mend 0000;", 5, 4);
    CHECK.fault("mend 0144;", 5, 4);
  }

  private static void promise6NumberAlone() {
    CHECK.sentence(6, "PART: N");
    CHECK.edges("code 1 when N;", 0, 9999, n -> n >= 0 && answer("code 1 when " + n + ";") == 0);
  }

  private static void promise6NotAsTold() {
    CHECK.sentence(6, "4 a NUMBER that is not as told");
    CHECK.fault("code 49 when 1; code 50 when 1;", 21, 4);
    CHECK.fault("code 1 when word 200 and word 201;", 30, 4);
    CHECK.fault("code 1 when (second 0);", 20, 4);
    CHECK.fault("code 1 when 1 = next 9999;", 21, 4);
    CHECK.fault("mend 144", 5, 4);
    CHECK.fault("code 50", 5, 4);
    CHECK.fault("code 1 when ((((word 0))));", 21, 4);
    CHECK.fault("code 1 50 when 1;", 7, 1);
    CHECK.fault("code 1 when place 9999;", 18, 1);
  }

  private static void promise6PlaceOfAToken() {
    CHECK.sentence(6, "kind + 16 * the place (from 0) of a token");
    CHECK.fault("?", 0, 1);
    CHECK.fault(" ?", 1, 1);
    CHECK.fault(blanks(799) + "?", 799, 1);
    CHECK.fault(blanks(791) + "code 50 w", 796, 4);
    CHECK.fault(blanks(782) + "code 1 when (((((1", 799, 5);
    CHECK.fault(blanks(790) + "code 12345", 795, 1);
    for (int place = 0; place < 800; place += 7) {
      CHECK.fault(blanks(place) + ";", place, 1);
    }
  }

  private static void promise6TheEndIsAToken() {
    CHECK.sentence(6, "the end being one at the text's length");
    String[] begun = {"code", "code 1", "code 1 when", "code 1 when 1", "code 1 when 1 <",
        "code 1 when 1 and", "code 1 when (", "code 1 when (1", "code 1 when (1)",
        "code 1 when word", "code 1 when word 1", "mend", "mend 1", RULE + "mend"};
    for (String signs : begun) {
      CHECK.fault(signs, signs.length(), 1);
      CHECK.fault(signs + " ", signs.length() + 1, 1);
      CHECK.fault(signs + " \n\n", signs.length() + 3, 1);
      CHECK.fault(blanks(800 - signs.length()) + signs, 800, 1);
      CHECK.fault(blanks(799 - signs.length()) + signs + " ", 800, 1);
    }
    goodAlone("");
    goodAlone(" ");
    goodAlone("\n");
    goodAlone(blanks(800));
  }

  private static void promise6TheFirstFromTheLeft() {
    CHECK.sentence(6, "of the first token from the left that is wrong");
    CHECK.fault("code 50 when word 0; mend 0;", 5, 4);
    CHECK.fault("code 49 when word 0; mend 0;", 18, 4);
    CHECK.fault("code 49 when word 1; mend 0;", 26, 4);
    CHECK.fault("code 50 ? when 1;", 5, 4);
    CHECK.fault("code ? 50 when 1;", 5, 1);
    CHECK.fault("code 1 when ((((((1))))) + word 0;", 17, 5);
    CHECK.fault("code 1 when word 0 + ((((((1))))));", 17, 4);
    CHECK.fault("code 50 when 1;" + RULE.repeat(24), 5, 4);
    CHECK.fault(RULE.repeat(24) + "code 50 when 1;", 24 * RULE.length(), 5);
    CHECK.fault("code 1 when word 201 12345", 17, 4);
  }

  private static void promise6TheLeast() {
    CHECK.sentence(6, "the least: 1 it is none, or can't stand there");
    CHECK.fault("code 1 when ((((( ? ))))) ;", 18, 1);
    CHECK.fault("code 1 when ((((( 12345 ))))) ;", 18, 1);
    CHECK.fault("code 1 when ((((( code ))))) ;", 18, 1);
    CHECK.fault("code 1 when ((((( ) )))) ;", 18, 1);
    CHECK.fault("code 1 when (((((", 17, 1);
    CHECK.fault(RULE.repeat(24) + "?", 24 * RULE.length(), 1);
    CHECK.fault(RULE.repeat(24) + "codes 1 when 1;", 24 * RULE.length(), 1);
    CHECK.fault("code 1 when 1 201;", 14, 1);
    CHECK.fault("201", 0, 1);
  }

  /** At each place where one kind of token alone may stand, every other token. */
  private static void promise6NoneOrCannotStand() {
    CHECK.sentence(6, "1 it is none, or can't stand there");
    String[] tokens = {"code", "when", "mend", "and", "word", "second", "next", "place", "with",
        "from", "long", "ahead", "age", "day", "1", "(", ")", "<", "=", "+", "-", ";", "?",
        "other"};
    String[] parts = {"word", "second", "next", "place", "with", "from", "long", "ahead", "age",
        "day", "1", "("};
    String[] behind = {"and", "<", "=", "+", "-", ";"};
    onlyThese("", tokens, "code", "mend");
    onlyThese("code ", tokens, "1");
    onlyThese("code 1 ", tokens, "when");
    onlyThese("code 1 when ", tokens, parts);
    onlyThese("code 1 when 1 + ", tokens, parts);
    onlyThese("code 1 when 1 < ", tokens, parts);
    onlyThese("code 1 when 1 and ", tokens, parts);
    onlyThese("code 1 when ( ", tokens, parts);
    onlyThese("code 1 when word ", tokens, "1");
    onlyThese("code 1 when second ", tokens, "1");
    onlyThese("code 1 when next ", tokens, "1");
    onlyThese("code 1 when word 1 ", tokens, behind);
    onlyThese("code 1 when place ", tokens, behind);
    onlyThese("code 1 when ( 1 ) ", tokens, behind);
    onlyThese("code 1 when ( 1 ", tokens, "and", "<", "=", "+", "-", ")");
    onlyThese("code 1 when 1 < 1 ", tokens, "and", "+", "-", ";");
    onlyThese("code 1 when ( 1 = 1 ", tokens, "and", "+", "-", ")");
    onlyThese("code 1 when 1; ", tokens, "code", "mend");
    onlyThese("mend ", tokens, "1");
    onlyThese("mend 1 ", tokens, ";");
    onlyThese("mend 1; ", tokens);
  }

  private static void onlyThese(String ahead, String[] tokens, String... may) {
    for (String token : tokens) {
      boolean stands = java.util.Arrays.asList(may).contains(token);
      int answer = answer(ahead + token);
      int here = 1 + 16 * ahead.length();
      CHECK.due("\"" + ahead + token + "\" may have its last token", answer != here, stands);
    }
  }

  private static void promise6TwentyFifthRule() {
    CHECK.sentence(6, "5 a 25th rule (at its first token)");
    String rules = RULE.repeat(24);
    CHECK.fault(rules + "code", rules.length(), 5);
    CHECK.fault(rules + "  code 1 when 1;", rules.length() + 2, 5);
    CHECK.fault(rules + "code ?", rules.length(), 5);
    CHECK.fault(RULE.repeat(23) + "code", 23 * RULE.length() + 4, 1);
    CHECK.fault(rules + "when", rules.length(), 1);
    goodAlone(rules + " mend 143; ");
  }

  private static void promise6WithinFiveOthers() {
    CHECK.sentence(6, "( E ); 5 within one another.");
    CHECK.sentence(6, "a PART within 5 others.");
    String[] parts = {"1", "word 1", "second 1", "next 1", "place", "with", "from", "long", "ahead",
        "age", "day"};
    for (String part : parts) {
      for (int others = 0; others <= 4; others++) {
        goodAlone("code 1 when " + "(".repeat(others) + part + ")".repeat(others) + ";");
      }
      CHECK.fault("code 1 when (((((" + part + ")))));", 17, 5);
      CHECK.fault("code 1 when 2 + (2 + (2 + (2 + (2 + (2 + " + part + ")))));", 37, 5);
    }
    CHECK.fault("code 1 when ((((((1))))));", 17, 5);
    goodAlone("code 1 when ((((1)))) + ((((1)))) < ((((1)))) and ((((1))));");
    goodAlone("code 1 when " + "((((1))))+".repeat(70) + "1;");
    CHECK.fault("code 1 when ((((1)))) + ((((1)))) and (((((1)))));", 43, 5);
    CHECK.fault("code 1 when ((((1)) + ((((1))))));", 25, 5);
    goodAlone("code 1 when ((((1)) + ((1))));");
    goodAlone("code 1 when ((((1)))); code 1 when ((((1))));");
  }

  private static void promise6FaultChangesNothing() {
    CHECK.sentence(6, "0, or its FAULT");
    String[] faulty = {"?", "code 50 when 1;", "code 1 when 1", "code 1 when word 201;", "mend 0;",
        "mend 144;", "code 1 when (((((1)))));", RULE.repeat(25), "mend 5; code 1 when 1;",
        "code 9 when 1; mend 9; ?"};
    int[] due = {1, 84, 209, 276, 84, 84, 277, 5 + 16 * 336, 129, 369};
    for (int i = 0; i < faulty.length; i++) {
      String signs = faulty[i];
      TWINS.refused("text() of \"" + signs + "\"", Twins::made, x -> Check.text(x, signs), due[i]);
    }
    DayDiary x = new DayDiary();
    CHECK.due("a text begun", Check.text(x, "code 1 when 1; mend 7; ?"), 1 + 16 * 23);
    CHECK.good(x, "code 2 when 1;");
    CHECK.due("leaves no rule to the next", x.count(5), 1);
    x.diary(0, 0, 0, 0);
    x.line(0, 0, 0, 1, 0, 0, 0);
    x.line(0, 2, 2, 1, 0, 0, 0);
    CHECK.due("nor its mending", x.ten(0, 1), -2);
  }

  private static void promise7Texts() {
    CHECK.sentence(7, "A text is in force from now on");
    for (int texts = 0; texts <= 8; texts++) {
      int most = texts - 1;
      CHECK.edges(texts + " texts: choose", -1, most, text -> {
        DayDiary x = new DayDiary();
        for (int i = 0; i <= most; i++) {
          Check.text(x, RULE.repeat(i));
        }
        boolean chosen = x.choose(text);
        CHECK.due("in force", x.count(2), chosen ? text : most);
        CHECK.due("its rules", x.count(5), Math.max(0, chosen ? text : most));
        return chosen;
      });
    }
  }

  private static void promise7None() {
    CHECK.sentence(7, "NONE: none is: true");
    DayDiary x = new DayDiary();
    CHECK.due("without texts", x.choose(DayDiary.NONE), true);
    Twins.made(x);
    CHECK.due("with texts", x.choose(DayDiary.NONE), true);
    CHECK.due("again", x.choose(DayDiary.NONE), true);
    CHECK.due("count(1)", x.count(1), 3);
    CHECK.due("count(2)", x.count(2), -1);
    CHECK.due("count(5)", x.count(5), 0);
    CHECK.due("code(0, 0)", x.code(0, 0), -1);
    CHECK.due("ten(0, 10)", x.ten(0, 10), -2);
    for (int sort = 0; sort < 4; sort++) {
      CHECK.due("cell(0, " + sort + ", false)", x.cell(0, sort, false), 0);
      CHECK.due("lead(0, " + sort + ", 0)", x.lead(0, sort, 0), -1);
    }
    CHECK.due("next(0, 0)", x.next(0, 0), 0);
    CHECK.due("day(0, 3)", x.day(0, 3), 4);
    CHECK.due("choose(0)", x.choose(0), true);
    CHECK.due("code(0, 0)", x.code(0, 0), 0);
  }

  private static void promise7RefusedChangesNothing() {
    CHECK.sentence(7, "false: none such.");
    for (int text : new int[] {3, -2, 4, 8, Integer.MIN_VALUE, Integer.MAX_VALUE}) {
      TWINS.refused("choose(" + text + ")", Twins::madeWithTape, x -> x.choose(text) ? 1 : 0, 0);
    }
    for (int text : new int[] {8, 9, -2}) {
      TWINS.refused("8 texts: choose(" + text + ")", EdgesOfTextsTest::eightTexts,
          x -> x.choose(text) ? 1 : 0, 0);
    }
    TWINS.refused("no text in force: choose(3)", x -> {
      Twins.made(x);
      x.choose(-1);
    }, x -> x.choose(3) ? 1 : 0, 0);
  }
}
