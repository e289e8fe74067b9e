/** Promises 11 to 13: known counts, rounds and weights. */
public final class WeightsTest {
  private static final Check CHECK = new Check();

  public static void main(String[] args) {
    promise11Known();
    promise12NoSuchRounds();
    promise12OneRound();
    promise12CutsAndDifferences();
    promise12ManyRounds();
    promise12TheLargestNumbers();
    promise12WeightsOfNothing();
    promise13Weight();
    CHECK.end("WeightsTest");
  }

  private static void promise11Known() {
    DayDiary x = new DayDiary();
    for (int sort = 0; sort < 5; sort++) {
      CHECK.due("known(" + sort + ", 1)", x.known(sort, 1), true);
      CHECK.due("known(" + sort + ", 1000000)", x.known(sort, 1000000), true);
      CHECK.due("known(" + sort + ", 0)", x.known(sort, 0), false);
      CHECK.due("known(" + sort + ", 1000001)", x.known(sort, 1000001), false);
      CHECK.due("known(" + sort + ", -1)", x.known(sort, -1), false);
    }
    CHECK.due("known(-1, 1)", x.known(-1, 1), false);
    CHECK.due("known(5, 1)", x.known(5, 1), false);
    CHECK.due("known(MIN, 1)", x.known(Integer.MIN_VALUE, 1), false);
    CHECK.due("known(0, MAX)", x.known(0, Integer.MAX_VALUE), false);
    for (int age = 0; age < 3; age++) {
      DayDiary y = new DayDiary();
      y.diary(0, 0, 0, age);
      CHECK.due("counts of 1 at first", y.rounds(0), 999);
      CHECK.due("workdays and age " + age, y.rounds(1), 0);
      DayDiary z = new DayDiary();
      z.diary(0, 0, 6, age);
      CHECK.due("other days and age " + age, z.rounds(1), 0);
      CHECK.due("its weight", z.weight(0), 1000);
    }
    x.diary(0, 0, 4, 0);
    x.known(2, 7);
    CHECK.due("a refused count leaves the one before", x.rounds(0), 999000);
  }

  private static void promise12NoSuchRounds() {
    DayDiary x = new DayDiary();
    CHECK.due("no diaries: rounds(0)", x.rounds(0), 0);
    CHECK.due("no diaries: rounds(20)", x.rounds(20), 0);
    CHECK.due("rounds(21)", x.rounds(21), -1);
    CHECK.due("rounds(-1)", x.rounds(-1), -1);
    x.diary(0, 0, 0, 0);
    CHECK.due("rounds(MAX)", x.rounds(Integer.MAX_VALUE), -1);
    CHECK.due("rounds(MIN)", x.rounds(Integer.MIN_VALUE), -1);
    CHECK.due("no round was gone", x.weight(0), 1000000);
  }

  private static void promise12OneRound() {
    DayDiary x = new DayDiary();
    x.diary(0, 0, 0, 0);
    x.diary(0, 1, 4, 1);
    x.diary(0, 2, 5, 1);
    x.diary(0, 3, 6, 2);
    CHECK.due("at first, counts of 1", x.rounds(0), 1999);
    x.known(0, 10);
    x.known(1, 30);
    x.known(2, 8);
    x.known(3, 20);
    x.known(4, 9);
    // days: 5000 5000 15000 15000; ages: 8000, 5000 and 15000 of 20000, 9000
    CHECK.due("rounds(1)", x.rounds(1), 6);
    int[] due = {8000, 5000, 15000, 9000};
    for (int i = 0; i < due.length; i++) {
      CHECK.due("weight(" + i + ")", x.weight(i), due[i]);
    }
    CHECK.due("rounds(0) changes nothing", x.rounds(0), 6);
    CHECK.due("weight(0)", x.weight(0), 8000);
  }

  private static void promise12CutsAndDifferences() {
    DayDiary x = new DayDiary();
    x.diary(0, 0, 0, 0);
    x.diary(0, 1, 0, 0);
    x.diary(0, 2, 0, 0);
    // 333 each, then 1000000 * 333 / 999 = 333333 each: 999.999 is cut to 999
    x.known(2, 1000);
    CHECK.due("rounds(1)", x.rounds(1), 998);
    CHECK.due("weight(2)", x.weight(2), 333333);
    x.known(0, 1000);
    CHECK.due("rounds(0)", x.rounds(0), 1);
    x.diary(1, 0, 6, 2);
    x.known(1, 5000);
    x.known(4, 300);
    CHECK.due("a sum below the count", x.rounds(0), 4000);
  }

  private static void promise12ManyRounds() {
    DayDiary x = new DayDiary();
    DayDiary y = new DayDiary();
    for (DayDiary z : new DayDiary[] {x, y}) {
      z.diary(0, 0, 0, 0);
      z.diary(0, 1, 1, 1);
      z.diary(0, 2, 5, 1);
      z.diary(0, 3, 6, 0);
      z.diary(0, 4, 2, 0);
      z.known(0, 100);
      z.known(1, 40);
      z.known(2, 90);
      z.known(3, 50);
    }
    int last = 0;
    for (int i = 0; i < 20; i++) {
      last = x.rounds(1);
    }
    CHECK.due("20 rounds at once", y.rounds(20), last);
    for (int i = 0; i < 5; i++) {
      CHECK.due("weight(" + i + ")", y.weight(i), x.weight(i));
    }
    CHECK.due("they come near", last <= 1, true);
  }

  private static void promise12TheLargestNumbers() {
    DayDiary x = new DayDiary();
    x.diary(0, 0, 0, 0);
    for (int sort = 0; sort < 5; sort++) {
      x.known(sort, 1000000);
    }
    CHECK.due("rounds(20)", x.rounds(20), 0);
    CHECK.due("weight(0)", x.weight(0), 1000000000);
    x.diary(0, 1, 6, 1);
    CHECK.due("a new diary", x.weight(1), 1000000);
    CHECK.due("rounds(1)", x.rounds(1), 0);
    x.line(0, 0, 143, 1, 0, 0, 0);
    x.line(1, 0, 143, 1, 0, 0, 0);
    CHECK.good(x, "code 0 when 1;");
    CHECK.due("cell(0, 0, true)", x.cell(0, 0, true), 288000000);
  }

  private static void promise12WeightsOfNothing() {
    DayDiary x = new DayDiary();
    x.diary(0, 0, 0, 0);
    x.diary(0, 1, 0, 1);
    x.known(2, 1000000);
    CHECK.due("the first round", x.rounds(1), 1000000);
    CHECK.due("weight(1)", x.weight(1), 1000);
    // 1000 * 1 * 1000 / 1000001000 is cut to 0, and there age 1 stays
    CHECK.due("the second round", x.rounds(1), 999999);
    CHECK.due("weight(0)", x.weight(0), 1000000000);
    CHECK.due("weight(1)", x.weight(1), 0);
    CHECK.due("more rounds", x.rounds(20), 999999);
    CHECK.due("weight(1)", x.weight(1), 0);
    x.known(0, 1000000);
    CHECK.due("a sort whose weights are 0 still has diaries", x.rounds(1), 1);
  }

  private static void promise13Weight() {
    DayDiary x = new DayDiary();
    CHECK.due("weight(0) without diaries", x.weight(0), -1);
    x.diary(0, 0, 0, 0);
    CHECK.due("weight(0)", x.weight(0), 1000000);
    CHECK.due("weight(1)", x.weight(1), -1);
    CHECK.due("weight(-1)", x.weight(-1), -1);
    CHECK.due("weight(MAX)", x.weight(Integer.MAX_VALUE), -1);
    x.rounds(1);
    CHECK.due("behind a round", x.weight(0), 1000);
  }
}
