import java.util.ArrayList;
import java.util.List;
import java.util.function.Consumer;
import java.util.function.ToIntFunction;

/**
 * Two objects made by the same calls, of which one is then asked for what it must refuse: all that
 * can be seen of them must stay alike. An object answers for 512 calls alone, so that each part of
 * what can be seen is asked of a pair of its own; a part takes at most 370 calls, and what makes and
 * refuses has the rest.
 */
final class Twins {
  private static final int PARTS = 8;
  private static final int MOST_LINES = 24;
  private static final int[] SOME_CODES = {0, 1, 3, 7, 49};

  private final Check check;

  Twins(Check check) {
    this.check = check;
  }

  /** The call answers as due, and nothing has changed behind it. */
  void refused(String call, Consumer<DayDiary> made, ToIntFunction<DayDiary> asked, int due) {
    for (int part = 0; part < PARTS; part++) {
      DayDiary plain = new DayDiary();
      made.accept(plain);
      DayDiary other = new DayDiary();
      made.accept(other);
      check.due(call, asked.applyAsInt(other), due);
      compare(call + ", behind it part " + part, seen(other, part), seen(plain, part));
    }
  }

  /** The same of calls whose answers are not looked at. */
  void unchanged(String calls, Consumer<DayDiary> made, Consumer<DayDiary> asked) {
    refused(calls, made, x -> {
      asked.accept(x);
      return 0;
    }, 0);
  }

  private void compare(String name, List<Integer> got, List<Integer> due) {
    check.due(name + ": how many answers", got.size(), due.size());
    for (int i = 0; i < Math.min(got.size(), due.size()); i++) {
      check.due(name + ", answer " + i, got.get(i), due.get(i));
    }
  }

  private static List<Integer> seen(DayDiary x, int part) {
    List<Integer> answers = new ArrayList<>();
    switch (part) {
      case 0 -> days(x, answers);
      case 1 -> lines(x, answers);
      case 2 -> tens(x, answers);
      case 3 -> cells(x, answers, false);
      case 4 -> cells(x, answers, true);
      case 5 -> tables(x, answers);
      case 6 -> texts(x, answers);
      default -> weights(x, answers);
    }
    return answers;
  }

  private static void days(DayDiary x, List<Integer> answers) {
    for (int what = 0; what < 6; what++) {
      answers.add(x.count(what));
    }
    for (int d = 0; d < answers.get(0); d++) {
      answers.add(x.weight(d));
      for (int what = 0; what < 8; what++) {
        answers.add(x.day(d, what));
      }
    }
  }

  private static void lines(DayDiary x, List<Integer> answers) {
    int diaries = x.count(0);
    for (int d = 0; d < diaries; d++) {
      int lines = x.day(d, 0);
      for (int k = 0; k < lines && answers.size() < 300; k++) {
        answers.add(x.code(d, k));
        for (int what = 0; what < 6; what++) {
          answers.add(x.look(d, k, what));
        }
      }
    }
  }

  private static void tens(DayDiary x, List<Integer> answers) {
    int last = x.count(0) - 1;
    for (int ten = 0; ten < 144; ten++) {
      answers.add(x.ten(0, ten));
      answers.add(x.ten(last, ten));
    }
  }

  private static void cells(DayDiary x, List<Integer> answers, boolean weighted) {
    for (int code = 0; code < 50; code++) {
      for (int sort = 0; sort < 4; sort++) {
        answers.add(x.cell(code, sort, weighted));
      }
    }
  }

  private static void tables(DayDiary x, List<Integer> answers) {
    for (int code : SOME_CODES) {
      for (int other : SOME_CODES) {
        answers.add(x.next(code, other));
      }
      for (int i = 0; i < 27; i++) {
        answers.add(x.lead(code, i % 3, i / 3));
      }
    }
    for (int house = 0; house < 10; house++) {
      for (int day = 0; day < 7; day++) {
        answers.add(x.quarrels(house, day));
      }
    }
  }

  /** What the texts are, each chosen in its turn, and at last what the tape holds. */
  private static void texts(DayDiary x, List<Integer> answers) {
    int texts = x.count(1);
    for (int text = 0; text < texts; text++) {
      answers.add(x.choose(text) ? 1 : 0);
      codes(x, answers);
    }
    answers.add(x.count(3));
    answers.add(x.text());
    answers.add(x.count(1));
    answers.add(x.count(2));
    codes(x, answers);
  }

  private static void codes(DayDiary x, List<Integer> answers) {
    answers.add(x.count(5));
    answers.add(x.ten(0, 10));
    for (int k = 0; k < MOST_LINES; k++) {
      answers.add(x.code(0, k));
    }
  }

  private static void weights(DayDiary x, List<Integer> answers) {
    int diaries = x.count(0);
    for (int n : new int[] {0, 1, 20}) {
      answers.add(x.rounds(n));
      for (int d = 0; d < diaries; d++) {
        answers.add(x.weight(d));
      }
    }
  }

  /** Words, diaries with gaps, seconds and quarrels, counts, weights and texts; no sign waits. */
  static void made(DayDiary x) {
    int[][] words = {{5, 1}, {10, 5}, {7, 2}, {200, 199}};
    for (int[] w : words) {
      x.below(w[0], w[1]);
    }
    int[][] diaries = {{0, 0, 0, 1}, {0, 1, 0, 2}, {9, 7, 6, 0}, {0, 0, 5, 1}};
    for (int[] d : diaries) {
      x.diary(d[0], d[1], d[2], d[3]);
    }
    int[][] lines = {{0, 0, 9, 10, 0, 0, 2}, {0, 12, 19, 5, 7, 3, 2}, {0, 20, 29, 2, 10, 9, 0},
        {0, 40, 49, 7, 0, 1, 130}, {1, 0, 4, 10, 2, 0, 0}, {1, 5, 15, 5, 0, 0, 1},
        {1, 16, 60, 1, 0, 0, 64}, {2, 0, 143, 200, 1, 9, 127}, {3, 100, 100, 3, 1, 5, 0}};
    for (int[] n : lines) {
      x.line(n[0], n[1], n[2], n[3], n[4], n[5], n[6]);
    }
    int[] counts = {100, 50, 70, 80, 30};
    for (int sort = 0; sort < counts.length; sort++) {
      x.known(sort, counts[sort]);
    }
    x.rounds(1);
    Check.text(x, "code 0 when word 1; code 49 when word 2 and 0 < place; code 1 when second 1;"
        + "mend 2;");
    Check.text(x, "code 3 when 1;");
    Check.text(x, "code 1 when word 5; code 7 when next 2; mend 143;");
    x.choose(0);
  }

  /** The same, and a good text waits on the tape. */
  static void madeWithTape(DayDiary x) {
    made(x);
    Check.feed(x, "code 7 when 1; mend 5;");
  }
}
