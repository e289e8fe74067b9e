/** The boundary cases of promises 11 to 13: known counts, rounds and weights. */
public final class EdgesOfWeightsTest {
  private static final Check CHECK = new Check();
  private static final Twins TWINS = new Twins(CHECK);
  private static final int MIN = Integer.MIN_VALUE;
  private static final int MAX = Integer.MAX_VALUE;

  public static void main(String[] args) {
    promise11Counts();
    promise11Sorts();
    promise11AtFirstOneEach();
    promise11TwoSortsOfDays();
    promise11ThreeAges();
    promise11RefusedChangesNothing();
    promise12Rounds();
    promise12NoneForAnother();
    promise12NoDiaries();
    promise12SortsWithDiaries();
    promise12TheGreatestDifference();
    promise12SumIsCut();
    promise12IfItIsNotNought();
    promise12WeightIsCut();
    promise12SAsItWasAhead();
    promise12DaysThenAges();
    promise12TheGreatestNumbers();
    promise13AtFirst();
    promise13NoneSuch();
    CHECK.end("EdgesOfWeightsTest");
  }

  private static DayDiary diaries(int[]... dayAndAge) {
    DayDiary x = new DayDiary();
    for (int i = 0; i < dayAndAge.length; i++) {
      x.diary(i % 10, i / 10, dayAndAge[i][0], dayAndAge[i][1]);
    }
    return x;
  }

  private static void counts(DayDiary x, int... counts) {
    for (int sort = 0; sort < counts.length; sort++) {
      CHECK.due("known(" + sort + ", " + counts[sort] + ")", x.known(sort, counts[sort]), true);
    }
  }

  private static void dueWeights(DayDiary x, int... due) {
    for (int d = 0; d < due.length; d++) {
      CHECK.due("weight(" + d + ")", x.weight(d), due[d]);
    }
  }

  private static void promise11Counts() {
    CHECK.sentence(11, "Counts (1 .. 1000000) are known");
    for (int sort = 0; sort < 5; sort++) {
      int of = sort;
      CHECK.edges("known(" + sort + ", count)", 1, 1000000, n -> new DayDiary().known(of, n));
      DayDiary x = diaries(new int[] {sort == 1 ? 6 : 0, Math.max(0, sort - 2)});
      for (int i = 0; i < 5; i++) {
        x.known(i, 1000);
      }
      CHECK.due("the weight's own count", x.rounds(0), 0);
      x.known(sort, 1);
      CHECK.due("the least", x.rounds(0), 999);
      x.known(sort, 1000000);
      CHECK.due("the greatest", x.rounds(0), 999000);
    }
  }

  private static void promise11Sorts() {
    CHECK.sentence(11, "sort 0, 1 of days, 2, 3, 4 of ages: true");
    CHECK.edges("known(sort, 1)", 0, 4, sort -> new DayDiary().known(sort, 1));
    CHECK.edges("known(sort, 1000000)", 0, 4, sort -> new DayDiary().known(sort, 1000000));
  }

  private static void promise11AtFirstOneEach() {
    CHECK.sentence(11, "at first 1 each");
    for (int day = 0; day < 7; day++) {
      for (int age = 0; age < 3; age++) {
        DayDiary x = diaries(new int[] {day, age});
        CHECK.due("rounds(0)", x.rounds(0), 999);
        CHECK.due("rounds(1)", x.rounds(1), 0);
        dueWeights(x, 1000);
      }
    }
  }

  private static void promise11TwoSortsOfDays() {
    CHECK.sentence(11, "for days of two sorts (day 0 .. 4; 5, 6)");
    for (int day = 0; day < 7; day++) {
      DayDiary x = diaries(new int[] {day, 0});
      counts(x, 20, 30, 1000);
      CHECK.due("day " + day, x.rounds(0), day <= 4 ? 980 : 970);
    }
    DayDiary x = diaries(new int[] {0, 0}, new int[] {4, 0}, new int[] {5, 1}, new int[] {6, 1});
    counts(x, 20, 30, 20, 30);
    CHECK.due("both sorts come out even", x.rounds(1), 0);
    dueWeights(x, 10000, 10000, 15000, 15000);
  }

  private static void promise11ThreeAges() {
    CHECK.sentence(11, "and for three ages");
    DayDiary x = diaries(new int[] {0, 0}, new int[] {0, 1}, new int[] {0, 2});
    counts(x, 60, 1, 10, 20, 30);
    CHECK.due("rounds(1)", x.rounds(1), 0);
    dueWeights(x, 10000, 20000, 30000);
  }

  private static void promise11RefusedChangesNothing() {
    CHECK.sentence(11, "false: no such sort, another count.");
    int[][] wrong = {{-1, 7}, {5, 7}, {0, 0}, {0, -1}, {1, 1000001}, {2, 0}, {3, 1000001}, {4, 0},
        {MIN, 7}, {MAX, 7}, {0, MIN}, {4, MAX}};
    for (int[] n : wrong) {
      TWINS.refused("known(" + n[0] + ", " + n[1] + ")", Twins::madeWithTape,
          x -> x.known(n[0], n[1]) ? 1 : 0, 0);
    }
    TWINS.refused("the same count again", Twins::madeWithTape, x -> x.known(0, 100) ? 1 : 0, 1);
  }

  private static void promise12Rounds() {
    CHECK.sentence(12, "n ROUNDS (0 .. 20)");
    CHECK.edges("rounds(n)", 0, 20, n -> new DayDiary().rounds(n) == 0);
    for (int n = 0; n <= 20; n++) {
      DayDiary one = new DayDiary();
      DayDiary all = new DayDiary();
      for (DayDiary x : new DayDiary[] {one, all}) {
        x.diary(0, 0, 0, 0);
        x.diary(0, 1, 1, 1);
        x.diary(0, 2, 5, 1);
        x.diary(0, 3, 6, 0);
        counts(x, 1000, 40, 5, 1000);
      }
      int last = one.rounds(0);
      for (int i = 0; i < n; i++) {
        last = one.rounds(1);
      }
      CHECK.due("rounds(" + n + ") as one by one", all.rounds(n), last);
      dueWeights(all, one.weight(0), one.weight(1), one.weight(2), one.weight(3));
    }
    TWINS.unchanged("rounds(0)", Twins::madeWithTape, x -> x.rounds(0));
  }

  private static void promise12NoneForAnother() {
    CHECK.sentence(12, "NONE for another n.");
    for (int n : new int[] {-1, 21, 22, MIN, MAX}) {
      TWINS.refused("rounds(" + n + ")", Twins::madeWithTape, x -> x.rounds(n), -1);
      CHECK.due("no diaries: rounds(" + n + ")", new DayDiary().rounds(n), -1);
    }
  }

  private static void promise12NoDiaries() {
    CHECK.sentence(12, "over all sorts with DIARIES");
    DayDiary x = new DayDiary();
    counts(x, 1000000, 1000000, 1000000, 1000000, 1000000);
    CHECK.due("no diary: rounds(0)", x.rounds(0), 0);
    CHECK.due("no diary: rounds(20)", x.rounds(20), 0);
    CHECK.due("counts stay for those that come", x.diary(0, 0, 0, 0) == 0 ? x.rounds(0) : -1,
        999000);
  }

  private static void promise12SortsWithDiaries() {
    CHECK.sentence(12, "over all sorts with DIARIES");
    for (int sort = 0; sort < 5; sort++) {
      DayDiary x = diaries(new int[] {sort == 1 ? 5 : 4, Math.max(0, sort - 2)});
      for (int other = 0; other < 5; other++) {
        boolean with = other == (sort == 1 ? 1 : 0) || other == Math.max(2, sort);
        x.known(other, with ? 1000 : 1000000);
      }
      CHECK.due("sorts without a diary do not count: " + sort, x.rounds(0), 0);
    }
  }

  private static void promise12TheGreatestDifference() {
    CHECK.sentence(12, "the greatest difference then");
    int[][] allSorts = {{0, 0}, {0, 1}, {5, 2}, {6, 0}};
    int[] sums = {2000, 2000, 2000, 1000, 1000};
    for (int sort = 0; sort < 5; sort++) {
      DayDiary x = diaries(allSorts);
      counts(x, sums);
      CHECK.due("none", x.rounds(0), 0);
      x.known(sort, sums[sort] + 7);
      CHECK.due("sort " + sort + " too small by 7", x.rounds(0), 7);
      x.known(sort, sums[sort] - 9);
      CHECK.due("sort " + sort + " too great by 9", x.rounds(0), 9);
      x.known((sort + 1) % 5, sums[(sort + 1) % 5] + 8);
      CHECK.due("another by 8", x.rounds(0), 9);
      x.known((sort + 1) % 5, sums[(sort + 1) % 5] - 10);
      CHECK.due("another by 10", x.rounds(0), 10);
    }
  }

  private static void promise12SumIsCut() {
    CHECK.sentence(12, "of the sum of WEIGHTS / 1000, cut, and the count");
    DayDiary x = diaries(new int[] {0, 0}, new int[] {0, 0}, new int[] {0, 0});
    counts(x, 10, 1, 10);
    CHECK.due("9999 / 1000 is 9", x.rounds(1), 1);
    dueWeights(x, 3333, 3333, 3333);
    x.known(0, 9);
    x.known(2, 9);
    CHECK.due("and 9 is no difference", x.rounds(0), 0);
    x.known(0, 8);
    CHECK.due("but 8 is one", x.rounds(0), 1);
  }

  private static void promise12IfItIsNotNought() {
    CHECK.sentence(12, "if it is not 0, each becomes WEIGHT * count * 1000 / S, cut");
    DayDiary x = diaries(new int[] {0, 0}, new int[] {0, 1});
    x.known(2, 1000000);
    x.rounds(1);
    dueWeights(x, 1000000000, 1000);
    CHECK.due("the sum of age 1 is 0 from now on", x.rounds(1), 999999);
    dueWeights(x, 1000000000, 0);
    x.known(3, 1000000);
    CHECK.due("and stays so", x.rounds(20), 1000000);
    dueWeights(x, 1000000000, 0);
    x.diary(5, 0, 0, 1);
    x.known(0, 1000);
    x.rounds(1);
    CHECK.due("a diary of 0 stays one of 0", x.weight(1), 0);
    CHECK.due("beside one that is not", x.weight(2), 1000000000);
    DayDiary y = diaries(new int[] {6, 2});
    y.rounds(1);
    dueWeights(y, 1000);
  }

  private static void promise12WeightIsCut() {
    CHECK.sentence(12, "each becomes WEIGHT * count * 1000 / S, cut");
    DayDiary x = diaries(new int[] {0, 0}, new int[] {0, 0}, new int[] {0, 0});
    counts(x, 2, 1, 5);
    // days: 2000 / 3 is 666; ages: 666 * 5000 / 1998 is 1666
    CHECK.due("rounds(1)", x.rounds(1), 2);
    dueWeights(x, 1666, 1666, 1666);
    DayDiary y = diaries(new int[] {0, 0}, new int[] {0, 1}, new int[] {0, 1}, new int[] {0, 1});
    counts(y, 1, 1, 1000, 1);
    y.rounds(1);
    dueWeights(y, 1000000, 333, 333, 333);
    // 333 * 1000 / 1000999 is 0: what was cut to nothing
    y.rounds(1);
    dueWeights(y, 1000000, 0, 0, 0);
  }

  private static void promise12SAsItWasAhead() {
    CHECK.sentence(12, "(S as it was ahead of that sort, that age)");
    DayDiary x = diaries(new int[] {0, 0}, new int[] {1, 0}, new int[] {2, 0}, new int[] {4, 0});
    counts(x, 1000, 1, 100);
    x.rounds(1);
    dueWeights(x, 25000, 25000, 25000, 25000);
    DayDiary y = diaries(new int[] {0, 0}, new int[] {6, 0}, new int[] {0, 1}, new int[] {6, 1});
    counts(y, 10, 30, 8, 12);
    y.rounds(1);
    dueWeights(y, 2000, 6000, 3000, 9000);
  }

  private static void promise12DaysThenAges() {
    CHECK.sentence(12, "A ROUND: for each sort of day, then for each age");
    DayDiary x = diaries(new int[] {0, 0}, new int[] {0, 1}, new int[] {5, 1});
    counts(x, 10, 30, 8, 20);
    // days: 5000 5000 30000; ages: 8000, then 5000 and 30000 * 20000 / 35000: day 5 has 17 of 30
    CHECK.due("ages come out even but for what is cut, days need not", x.rounds(1), 13);
    dueWeights(x, 8000, 2857, 17142);
  }

  private static void promise12TheGreatestNumbers() {
    CHECK.sentence(12, "WEIGHT * count * 1000 / S");
    DayDiary x = diaries(new int[] {0, 0}, new int[] {1, 1}, new int[] {4, 2});
    counts(x, 1000000, 1000000, 1000000, 1000000, 1000000);
    CHECK.due("a sum beyond what 32 bits hold", x.rounds(1), 2000000);
    dueWeights(x, 1000000000, 1000000000, 1000000000);
    CHECK.due("rounds(20)", x.rounds(20), 2000000);
    dueWeights(x, 1000000000, 1000000000, 1000000000);
    for (int d = 0; d < 3; d++) {
      x.line(d, 0, 143, 1, 0, 0, 0);
    }
    CHECK.good(x, "code 0 when 1;");
    CHECK.due("cell(0, 0, true)", x.cell(0, 0, true), 432000000);
    DayDiary y = new DayDiary();
    for (int d = 0; d < 40; d++) {
      y.diary(d % 10, d / 10, 0, 0);
    }
    CHECK.due("40 diaries at first", y.rounds(0), 39999);
    counts(y, 1000000, 1, 1000000);
    CHECK.due("40 diaries of one sort", y.rounds(20), 0);
    for (int d = 0; d < 40; d++) {
      CHECK.due("weight(" + d + ")", y.weight(d), 25000000);
    }
  }

  private static void promise13AtFirst() {
    CHECK.sentence(13, "each DIARY has one, 1000000 at first");
    DayDiary x = new DayDiary();
    for (int d = 0; d < 40; d++) {
      x.diary(d % 10, d / 10, d % 7, d % 3);
      CHECK.due("weight(" + d + ")", x.weight(d), 1000000);
    }
    DayDiary y = diaries(new int[] {0, 0});
    y.rounds(1);
    for (int d = 1; d < 40; d++) {
      y.diary(d % 10, 1 + d / 10, 5, 0);
      CHECK.due("one that comes later, weight(" + d + ")", y.weight(d), 1000000);
      CHECK.due("the one that was there", y.weight(0), 1000);
    }
  }

  private static void promise13NoneSuch() {
    CHECK.sentence(13, "NONE: none such.");
    for (int diaries : new int[] {1, 2, 40}) {
      DayDiary x = new DayDiary();
      CHECK.due("no diary: weight(0)", x.weight(0), -1);
      for (int d = 0; d < diaries; d++) {
        x.diary(d % 10, d / 10, 0, 0);
      }
      CHECK.edges(diaries + " diaries: weight", 0, diaries - 1, d -> x.weight(d) == 1000000);
    }
    for (int d : new int[] {-1, 4, 40, MIN, MAX}) {
      TWINS.refused("weight(" + d + ")", Twins::madeWithTape, x -> x.weight(d), -1);
    }
    TWINS.unchanged("weight(0)", Twins::madeWithTape, x -> x.weight(0));
  }
}
