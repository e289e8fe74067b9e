import java.util.NoSuchElementException;
import java.util.function.IntPredicate;
import java.util.function.IntSupplier;

/** What the tests share: answers held against what is due, and texts put on the tape. */
final class Check {
  private int asked = 0;
  private int wrong = 0;
  private String about = "";

  /**
   * Names the sentence whose test begins here. A sentence of "Terms" is named with the promise that
   * it is seen by; the document must have its very words, lest a test be about none of them.
   */
  void sentence(int promise, String words) {
    about = "promise " + promise + ", \"" + words + "\": ";
    due("these words stand in the document", Document.says(promise, words), true);
  }

  void due(String call, long got, long want) {
    asked++;
    if (got != want) {
      wrong++;
      System.out.println(about + call + " answered " + got + ", due is " + want);
    }
  }

  void due(String call, boolean got, boolean want) {
    due(call, got ? 1 : 0, want ? 1 : 0);
  }

  /** Every number from least to most is taken, and none beyond, near, far or by a wrap-around. */
  void edges(String call, int least, int most, IntPredicate taken) {
    int step = Math.max(1, (most - least) / 256);
    for (int n = least; n <= most; n += step) {
      due(call + " takes " + n, taken.test(n), true);
    }
    due(call + " takes " + most, taken.test(most), true);
    int[] beyond = {least - 1, least - 2, most + 1, most + 2, -most, least + 256, most + 256,
        least - 256, least + 65536, most + 65536, least - 65536, least + Integer.MIN_VALUE,
        most + Integer.MIN_VALUE, Integer.MIN_VALUE, Integer.MAX_VALUE};
    for (int n : beyond) {
      if (n < least || n > most) {
        due(call + " takes " + n, taken.test(n), false);
      }
    }
  }

  /** The answer, or null where the call throws a NoSuchElementException. */
  static Integer answer(IntSupplier call) {
    try {
      return call.getAsInt();
    } catch (NoSuchElementException e) {
      return null;
    }
  }

  void lookThrows(DayDiary x, int diary, int line, int what) {
    due("look(" + diary + ", " + line + ", " + what + ") throws",
        answer(() -> x.look(diary, line, what)) == null, true);
  }

  void dayThrows(DayDiary x, int diary, int what) {
    due("day(" + diary + ", " + what + ") throws",
        answer(() -> x.day(diary, what)) == null, true);
  }

  /** Feeds a text, 24 signs a call; sign 0 fills up the last call and is left out by it. */
  static int feed(DayDiary x, String signs) {
    int size = x.count(3);
    for (int i = 0; i < signs.length(); i += 24) {
      size = x.feed(eight(signs, i), eight(signs, i + 8), eight(signs, i + 16));
    }
    return size;
  }

  static long eight(String signs, int from) {
    long bytes = 0;
    for (int i = from; i < from + 8; i++) {
      bytes = bytes << 8 | (i < signs.length() ? signs.charAt(i) & 255 : 0);
    }
    return bytes;
  }

  static int text(DayDiary x, String signs) {
    feed(x, signs);
    return x.text();
  }

  /** The text must be without fault. */
  void good(DayDiary x, String signs) {
    due("text() of \"" + signs + "\"", text(x, signs), 0);
  }

  /** A new object's answer to the text, which must be a fault at the place of the kind. */
  void fault(String signs, int place, int kind) {
    due("text() of \"" + signs + "\"", text(new DayDiary(), signs), kind + 16L * place);
  }

  void end(String name) {
    System.out.println(name + ": " + asked + " answers, " + wrong + " wrong");
    if (wrong != 0 || asked == 0) {
      System.exit(1);
    }
  }
}
