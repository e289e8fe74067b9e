import java.util.Random;

/**
 * All promises: runs of 512 calls, drawn by a fixed seed, with ordinary, odd and wild numbers; the
 * class must answer as the plain model does, and throw nothing but what the document names.
 */
public final class ModelTest {
  private static final int RUNS = 400;
  private static final int CALLS = 512;
  private static final int[] WILD = {Integer.MIN_VALUE, Integer.MAX_VALUE, -1, -2, 1 << 16, 255, 256};
  private static final Check CHECK = new Check();

  private final Random random;
  private final DayDiary x = new DayDiary();
  private final Model model = new Model();
  private final int words;
  private final int houses;
  private final int codes;
  private int diaries = 0;
  /** Calls of the object so far: beyond its 512th the document promises nothing. */
  private int used = 0;

  private ModelTest(int seed) {
    random = new Random(seed);
    words = pick(3, 12, 200);
    houses = pick(1, 2, 10);
    codes = pick(2, 4, 50);
  }

  public static void main(String[] args) {
    for (int run = 0; run < RUNS; run++) {
      new ModelTest(run).go(run);
    }
    CHECK.end("ModelTest");
  }

  private int pick(int... of) {
    return of[random.nextInt(of.length)];
  }

  /** A number below the bound; now and then the bound, or a wild one. */
  private int any(int bound) {
    int chance = random.nextInt(200);
    if (chance == 0) {
      return WILD[random.nextInt(WILD.length)];
    }
    return chance == 1 ? bound : random.nextInt(Math.max(1, bound));
  }

  private void go(int run) {
    int lineShare = pick(10, 30, 60);
    while (used < CALLS) {
      String name = "run " + run + ", call " + used + ": ";
      int chance = random.nextInt(100);
      try {
        if (chance < 6) {
          diary(name);
        } else if (chance < 6 + lineShare) {
          line(name);
        } else if (chance < 12 + lineShare) {
          text(name);
        } else {
          ask(name);
        }
      } catch (RuntimeException e) {
        CHECK.due(name + e, 1, 0);
        e.printStackTrace(System.out);
        return;
      }
    }
  }

  private void diary(String name) {
    int[] n = {any(houses), any(8), any(pick(1, 7)), any(3)};
    int got = x.diary(n[0], n[1], n[2], n[3]);
    used++;
    CHECK.due(name + "diary", got, model.diary(n[0], n[1], n[2], n[3]));
    diaries = Math.max(diaries, got + 1);
  }

  private void line(String name) {
    int diary = any(diaries);
    int a = any(144);
    int b = a + any(pick(1, 5, 20, 100));
    int word = 1 + any(words);
    int second = random.nextInt(3) == 0 ? 0 : any(words + 1);
    int place = any(10);
    int who = any(256) & (random.nextInt(4) == 0 ? -1 : ~(1 << random.nextInt(8)));
    used++;
    CHECK.due(name + "line(" + diary + ", " + a + ", " + b + ")",
        x.line(diary, a, b, word, second, place, who),
        model.line(diary, a, b, word, second, place, who));
  }

  private void text(String name) {
    String signs = spoil(rules());
    for (int i = 0; i < signs.length() && used < CALLS; i += 24) {
      long a = Check.eight(signs, i);
      long b = Check.eight(signs, i + 8);
      long c = Check.eight(signs, i + 16);
      CHECK.due(name + "feed", x.feed(a, b, c), model.feed(a, b, c));
      used++;
    }
    if (random.nextInt(10) != 0 && used < CALLS) {
      CHECK.due(name + "text \"" + signs + "\"", x.text(), model.text());
      used++;
    }
  }

  private void ask(String name) {
    int d = any(diaries);
    int n = any(codes);
    int m = any(codes);
    used++;
    switch (random.nextInt(17)) {
      case 0 -> {
        int w = any(words) + 1;
        int o = any(words) + 1;
        CHECK.due(name + "below", x.below(w, o), model.below(w, o));
      }
      case 1 -> {
        int t = any(model.count(1) + 1) - 1;
        CHECK.due(name + "choose(" + t + ")", x.choose(t), model.choose(t));
      }
      case 2, 3 -> {
        int k = any(pick(3, 25));
        CHECK.due(name + "code(" + d + ", " + k + ")", x.code(d, k), model.code(d, k));
      }
      case 4 -> {
        int k = any(pick(3, 25));
        int what = any(6);
        both(name + "look(" + d + ", " + k + ", " + what + ")",
            Check.answer(() -> x.look(d, k, what)), Check.answer(() -> model.look(d, k, what)));
      }
      case 5, 6 -> {
        int t = any(144);
        CHECK.due(name + "ten(" + d + ", " + t + ")", x.ten(d, t), model.ten(d, t));
      }
      case 7 -> {
        int sort = any(5);
        int count = any(pick(10, 1000, 1000001));
        CHECK.due(name + "known", x.known(sort, count), model.known(sort, count));
      }
      case 8 -> {
        int rounds = any(pick(2, 21));
        CHECK.due(name + "rounds(" + rounds + ")", x.rounds(rounds), model.rounds(rounds));
      }
      case 9 -> CHECK.due(name + "weight(" + d + ")", x.weight(d), model.weight(d));
      case 10, 11 -> {
        int sort = any(4);
        boolean weighted = random.nextBoolean();
        CHECK.due(name + "cell(" + n + ", " + sort + ", " + weighted + ")",
            x.cell(n, sort, weighted), model.cell(n, sort, weighted));
      }
      case 12 -> {
        int sort = any(4);
        int i = any(pick(3, 30));
        CHECK.due(name + "lead", x.lead(n, sort, i), model.lead(n, sort, i));
      }
      case 13 -> CHECK.due(name + "next(" + n + ", " + m + ")", x.next(n, m), model.next(n, m));
      case 14 -> {
        int house = any(houses);
        int day = any(pick(1, 7));
        CHECK.due(name + "quarrels", x.quarrels(house, day), model.quarrels(house, day));
      }
      case 15 -> {
        int what = any(8);
        both(name + "day(" + d + ", " + what + ")",
            Check.answer(() -> x.day(d, what)), Check.answer(() -> model.day(d, what)));
      }
      default -> {
        int what = any(6);
        CHECK.due(name + "count(" + what + ")", x.count(what), model.count(what));
      }
    }
  }

  private void both(String call, Integer got, Integer want) {
    CHECK.due(call + " throws", got == null, want == null);
    CHECK.due(call, got == null ? 0 : got, want == null ? 0 : want);
  }

  private String rules() {
    StringBuilder signs = new StringBuilder();
    int rules = random.nextInt(40) == 0 ? pick(24, 25) : random.nextInt(6);
    for (int i = 0; i < rules; i++) {
      String e = rules > 20 ? "" + random.nextInt(2) : e(random.nextInt(4) == 0 ? 0 : 3);
      signs.append("code ").append(any(codes)).append(" when ").append(e).append(" ; ");
    }
    if (random.nextInt(3) != 0) {
      signs.append("mend ").append(any(pick(4, 20, 144))).append(" ;");
    }
    return signs.toString();
  }

  private String e(int within) {
    StringBuilder signs = new StringBuilder(test(within));
    while (random.nextInt(4) == 0) {
      signs.append(" and ").append(test(within));
    }
    return signs.toString();
  }

  private String test(int within) {
    String sum = sum(within);
    return random.nextInt(2) == 0 ? sum : sum + (random.nextBoolean() ? " < " : " = ") + sum(within);
  }

  private String sum(int within) {
    StringBuilder signs = new StringBuilder(part(within));
    while (random.nextInt(4) == 0) {
      signs.append(random.nextBoolean() ? " + " : " - ").append(part(within));
    }
    return signs.toString();
  }

  private String part(int within) {
    int chance = random.nextInt(16);
    if (chance < 4 && within < (random.nextInt(20) == 0 ? 7 : 4)) {
      return "( " + e(within + 1) + " )";
    }
    return switch (chance) {
      case 0, 1, 2 -> "word " + (1 + any(words));
      case 3, 4 -> "second " + (1 + any(words));
      case 5 -> "next " + (1 + any(words));
      case 6 -> "place";
      case 7 -> "with";
      case 8 -> "from";
      case 9 -> "long";
      case 10, 11 -> "ahead";
      case 12 -> "age";
      case 13 -> "day";
      default -> "" + any(pick(3, 10, 144));
    };
  }

  /** Most texts stay good ones; the others lose, gain or change a sign or two. */
  private String spoil(String good) {
    StringBuilder signs = new StringBuilder(good);
    if (random.nextInt(3) == 0) {
      String tight = good.replaceAll(" ?([0-9;()<=+-]+) ?", "$1");
      signs = new StringBuilder(tight);
    }
    String odd = "();<=+-0123456789 \nacdeghinmotwx?A_~";
    while (random.nextInt(3) == 0 && signs.length() > 0) {
      int at = random.nextInt(signs.length());
      char sign = odd.charAt(random.nextInt(odd.length()));
      switch (random.nextInt(4)) {
        case 0 -> signs.deleteCharAt(at);
        case 1 -> signs.insert(at, sign);
        case 2 -> signs.setCharAt(at, sign);
        default -> signs.setLength(random.nextInt(8) == 0 ? at : signs.length());
      }
    }
    return signs.toString();
  }
}
