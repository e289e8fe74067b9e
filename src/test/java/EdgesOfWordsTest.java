import java.util.function.Consumer;

/** The boundary cases of promises 1 and 2: a new object, its calls, and the tree of words. */
public final class EdgesOfWordsTest {
  private static final Check CHECK = new Check();
  private static final Twins TWINS = new Twins(CHECK);

  public static void main(String[] args) {
    promise1NoDiaryNoText();
    promise1NothingIsShared();
    promise1FiveHundredTwelveCalls();
    promise1TheConstant();
    promise2WordsAre1To200();
    promise2BelowALesserOne();
    promise2NoneIsAtFirst();
    promise2UnderItself();
    promise2UnderWhatItIsBelow();
    promise2UnderWhatThatIsUnder();
    promise2PutElsewhere();
    promise2RefusedChangesNothing();
    CHECK.end("EdgesOfWordsTest");
  }

  private static void promise1NoDiaryNoText() {
    CHECK.sentence(1, "No DIARY, no text.");
    DayDiary x = new DayDiary();
    CHECK.due("count(0)", x.count(0), 0);
    CHECK.due("count(1)", x.count(1), 0);
    CHECK.due("count(2)", x.count(2), DayDiary.NONE);
    CHECK.due("count(3)", x.count(3), 0);
    CHECK.due("count(4)", x.count(4), 0);
    CHECK.due("count(5)", x.count(5), 0);
    CHECK.due("line into diary 0", x.line(0, 0, 0, 1, 0, 0, 0), -1);
    CHECK.due("code(0, 0)", x.code(0, 0), -2);
    CHECK.due("ten(0, 0)", x.ten(0, 0), -3);
    CHECK.due("weight(0)", x.weight(0), -1);
    CHECK.due("rounds(1)", x.rounds(1), 0);
    CHECK.due("quarrels(0, 0)", x.quarrels(0, 0), 0);
    CHECK.due("next(0, 0)", x.next(0, 0), 0);
    for (int sort = 0; sort < 4; sort++) {
      CHECK.due("cell(0, " + sort + ", false)", x.cell(0, sort, false), 0);
      CHECK.due("cell(0, " + sort + ", true)", x.cell(0, sort, true), 0);
      CHECK.due("lead(0, " + sort + ", 0)", x.lead(0, sort, 0), -1);
    }
    CHECK.due("choose(0)", x.choose(0), false);
    CHECK.lookThrows(x, 0, 0, 0);
    CHECK.dayThrows(x, 0, 4);
    CHECK.due("the first diary", x.diary(0, 0, 0, 0), 0);
    CHECK.due("the first text", x.text(), 0);
    CHECK.due("its number", x.count(2), 0);
  }

  private static void promise1NothingIsShared() {
    CHECK.sentence(1, "No DIARY, no text.");
    DayDiary older = new DayDiary();
    Twins.madeWithTape(older);
    DayDiary x = new DayDiary();
    int[] due = {0, 0, -1, 0, 0, 0};
    for (int what = 0; what < due.length; what++) {
      CHECK.due("an older object is full: count(" + what + ")", x.count(what), due[what]);
    }
    x.diary(1, 1, 1, 1);
    CHECK.due("counts are 1 each", x.rounds(0), 999);
    CHECK.due("the older object keeps its diaries", older.count(0), 4);
    CHECK.due("and its house", older.day(0, 4), 0);
    x.line(0, 0, 0, 10, 0, 0, 0);
    CHECK.good(x, "code 1 when word 5;");
    CHECK.due("no word is below one", x.code(0, 0), -1);
  }

  private static void promise1FiveHundredTwelveCalls() {
    CHECK.sentence(1, "An object is used for at most 512 calls after it has been made");
    DayDiary x = new DayDiary();
    for (int d = 0; d < 20; d++) {
      x.diary(d % 10, d / 10, 0, 0);
      for (int k = 0; k < 24; k++) {
        x.line(d, 6 * k, 6 * k + 5, 1, 0, 0, 0);
      }
    }
    x.feed(Check.eight("code 4 w", 0), Check.eight("hen 1;", 0), 0);
    CHECK.due("call 502", x.text(), 0);
    for (int call = 503; call <= 510; call++) {
      CHECK.due("call " + call, x.count(4), 480);
    }
    CHECK.due("call 511", x.lead(4, 0, 479), 1923);
    CHECK.due("call 512", x.cell(4, 0, true), 20 * 144 * 1000);
  }

  private static void promise1TheConstant() {
    CHECK.sentence(1, "`NONE = -1`: None.");
    CHECK.due("NONE", DayDiary.NONE, -1);
    CHECK.due("what is answered of none", new DayDiary().weight(0), DayDiary.NONE);
  }

  private static void promise2WordsAre1To200() {
    CHECK.sentence(2, "WORDS are 1 .. 200");
    CHECK.edges("below(word, 1)", 2, 200, word -> new DayDiary().below(word, 1));
    CHECK.edges("below(200, other)", 1, 199, other -> new DayDiary().below(200, other));
    CHECK.sentence(2, "false: no such WORDS, not lesser.");
    int[][] wrong = {{0, -1}, {-1, -2}, {1, 0}, {200, 0}, {201, 1}, {201, 200}, {202, 201},
        {Integer.MAX_VALUE, Integer.MIN_VALUE}, {Integer.MAX_VALUE, 1}, {200, Integer.MIN_VALUE}};
    for (int[] w : wrong) {
      CHECK.due("below(" + w[0] + ", " + w[1] + ")", new DayDiary().below(w[0], w[1]), false);
    }
  }

  private static void promise2BelowALesserOne() {
    CHECK.sentence(2, "A WORD is put below a lesser one: true");
    DayDiary x = new DayDiary();
    for (int word = 1; word <= 200; word++) {
      CHECK.due("below(" + word + ", one less)", x.below(word, word - 1), word > 1);
      CHECK.due("below(" + word + ", itself)", x.below(word, word), false);
    }
    x = new DayDiary();
    for (int word = 1; word <= 200; word++) {
      CHECK.due("below(" + word + ", one more)", x.below(word, word + 1), false);
    }
    CHECK.due("below(2, 1)", x.below(2, 1), true);
    CHECK.due("below(2, 1) again", x.below(2, 1), true);
    CHECK.due("below(1, 200)", x.below(1, 200), false);
  }

  /** A line of one ten for each of the words, 24 of a diary; 209 calls. */
  private static void lineForEachWord(DayDiary x) {
    for (int word = 1; word <= 200; word++) {
      int diary = (word - 1) / 24;
      int ten = (word - 1) % 24;
      if (ten == 0) {
        x.diary(diary, 0, 0, 0);
      }
      x.line(diary, ten, ten, word, 0, 0, 0);
    }
  }

  private static int lineOf(int word) {
    return 100 * ((word - 1) / 24) + (word - 1) % 24;
  }

  /** How many words are under the other one, and the least of them. */
  private static void dueUnder(DayDiary x, int other, int howMany, int least) {
    CHECK.good(x, "code 1 when word " + other + ";");
    CHECK.due("words under " + other, x.cell(1, 0, false), howMany);
    CHECK.due("the least of them", x.lead(1, 0, 0), lineOf(least));
  }

  private static void promise2NoneIsAtFirst() {
    CHECK.sentence(2, "each may be put below a lesser one (none is at first)");
    for (int first = 1; first <= 200; first += 8) {
      DayDiary x = new DayDiary();
      lineForEachWord(x);
      for (int word = first; word < first + 8; word++) {
        dueUnder(x, word, 1, word);
      }
    }
  }

  private static void promise2UnderItself() {
    CHECK.sentence(2, "A WORD is UNDER itself");
    for (int word : new int[] {1, 2, 199, 200}) {
      DayDiary x = new DayDiary();
      if (word > 1) {
        x.below(word, 1);
      }
      x.diary(0, 0, 0, 0);
      x.line(0, 0, 0, word, word, 0, 0);
      x.line(0, 1, 1, word, 0, 0, 0);
      CHECK.good(x, "code 1 when word " + word + " and second " + word + " and next " + word + ";");
      CHECK.due("word " + word + ", second and next", x.code(0, 0), 1);
    }
  }

  private static void promise2UnderWhatItIsBelow() {
    CHECK.sentence(2, "and under what it is below");
    DayDiary x = new DayDiary();
    lineForEachWord(x);
    for (int word = 2; word <= 200; word++) {
      x.below(word, 1);
    }
    dueUnder(x, 1, 200, 1);
    dueUnder(x, 2, 1, 2);
    dueUnder(x, 199, 1, 199);
    dueUnder(x, 200, 1, 200);
    x.below(200, 199);
    dueUnder(x, 199, 2, 199);
    dueUnder(x, 1, 200, 1);
  }

  private static void promise2UnderWhatThatIsUnder() {
    CHECK.sentence(2, "and what that is under");
    DayDiary x = new DayDiary();
    lineForEachWord(x);
    for (int word = 2; word <= 200; word++) {
      x.below(word, word - 1);
    }
    for (int word : new int[] {1, 2, 3, 100, 198, 199, 200}) {
      dueUnder(x, word, 201 - word, word);
    }
    x.below(101, 99);
    dueUnder(x, 100, 1, 100);
    CHECK.due("100 is put elsewhere, 101 and above still stand under 1",
        x.choose(0) ? x.cell(1, 0, false) : -1, 200);
  }

  private static void promise2PutElsewhere() {
    CHECK.sentence(2, "each may be put below a lesser one");
    DayDiary x = new DayDiary();
    x.diary(0, 0, 0, 0);
    x.line(0, 0, 0, 200, 0, 0, 0);
    x.line(0, 2, 2, 200, 0, 0, 0);
    CHECK.good(x, "code 1 when word 1;");
    CHECK.due("none at first", x.code(0, 0), -1);
    CHECK.due("no cell", x.cell(1, 0, false), 0);
    x.below(200, 199);
    CHECK.due("below 199", x.code(0, 0), -1);
    x.below(199, 1);
    CHECK.due("which is put below 1", x.code(0, 0), 1);
    CHECK.due("its cell", x.cell(1, 0, false), 2);
    x.below(200, 2);
    CHECK.due("put below 2", x.code(0, 0), -1);
    CHECK.due("its ten", x.ten(0, 0), -1);
    CHECK.due("lines without a code", x.day(0, 3), 2);
    x.below(2, 1);
    CHECK.due("which is put below 1", x.code(0, 0), 1);
    CHECK.due("its lead", x.lead(1, 0, 1), 1);
    x.below(200, 1);
    CHECK.due("put below 1 itself", x.code(0, 0), 1);
  }

  private static void promise2RefusedChangesNothing() {
    CHECK.sentence(2, "false: no such WORDS, not lesser.");
    Consumer<DayDiary> made = Twins::madeWithTape;
    int[][] wrong = {{5, 0}, {5, -1}, {5, 5}, {5, 6}, {5, 200}, {5, 201}, {10, 0}, {10, 10},
        {10, 11}, {7, Integer.MIN_VALUE}, {200, 0}, {200, 200}, {200, 201}, {0, 0}, {0, -1},
        {201, 1}, {261, 1}, {Integer.MAX_VALUE, 1}, {Integer.MIN_VALUE, 1}};
    for (int[] w : wrong) {
      TWINS.refused("below(" + w[0] + ", " + w[1] + ")", made,
          x -> x.below(w[0], w[1]) ? 1 : 0, 0);
    }
    DayDiary x = new DayDiary();
    lineForEachWord(x);
    x.below(5, 3);
    x.below(3, 1);
    for (int[] w : wrong) {
      x.below(w[0], w[1]);
    }
    dueUnder(x, 1, 3, 1);
    dueUnder(x, 3, 2, 3);
    dueUnder(x, 5, 1, 5);
    dueUnder(x, 6, 1, 6);
    dueUnder(x, 10, 1, 10);
    dueUnder(x, 199, 1, 199);
    dueUnder(x, 200, 1, 200);
  }
}
