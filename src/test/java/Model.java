import java.util.ArrayList;
import java.util.Comparator;
import java.util.HashMap;
import java.util.List;
import java.util.Map;
import java.util.NoSuchElementException;
import java.util.regex.Matcher;
import java.util.regex.Pattern;

/**
 * The document in its plainest form, by other ways than the class takes: a day is a row of tens, a
 * text stays a list of tokens that is cut where its joins stand, nothing is kept between calls.
 */
final class Model {
  private static final Pattern TOKEN = Pattern.compile("[a-z]+|[0-9]+|[^ \n]");

  private record Token(String sign, int place) {
    boolean isNumber() {
      return sign.matches("[0-9]{1,4}");
    }

    int value() {
      return Integer.parseInt(sign);
    }
  }

  private record Rule(int code, List<Token> when) {}

  private record Text(List<Rule> rules, int mend) {}

  private record Line(int a, int b, int word, int second, int place, int who) {}

  private static final class Diary {
    int house;
    int person;
    int day;
    int age;
    long weight = 1000000;
    List<Line> lines = new ArrayList<>();

    Line at(int ten) {
      for (Line line : lines) {
        if (line.a <= ten && ten <= line.b) {
          return line;
        }
      }
      return null;
    }
  }

  private final Map<Integer, Integer> above = new HashMap<>();
  private final List<Diary> diaries = new ArrayList<>();
  private final List<Text> texts = new ArrayList<>();
  private final StringBuilder tape = new StringBuilder();
  private final long[] counts = {1, 1, 1, 1, 1};
  private int chosen = -1;

  private static boolean in(int number, int least, int most) {
    return least <= number && number <= most;
  }

  boolean below(int word, int other) {
    boolean fine = in(word, 1, 200) && in(other, 1, 200) && other < word;
    if (fine) {
      above.put(word, other);
    }
    return fine;
  }

  private int under(int word, int other) {
    if (word == 0) {
      return 0;
    }
    return word == other ? 1 : under(above.getOrDefault(word, 0), other);
  }

  int diary(int house, int person, int day, int age) {
    if (!in(house, 0, 9) || !in(person, 0, 7) || !in(day, 0, 6) || !in(age, 0, 2)) {
      return -1;
    }
    for (Diary d : diaries) {
      if (d.house == house && d.person == person && d.day == day) {
        return -1;
      }
    }
    if (diaries.size() == 40) {
      return -1;
    }
    Diary d = new Diary();
    d.house = house;
    d.person = person;
    d.day = day;
    d.age = age;
    diaries.add(d);
    return diaries.size() - 1;
  }

  int line(int diary, int a, int b, int word, int second, int place, int who) {
    if (!in(diary, 0, diaries.size() - 1) || !in(a, 0, 143) || !in(b, 0, 143) || a > b) {
      return -1;
    }
    if (!in(word, 1, 200) || !in(second, 0, 200) || !in(place, 0, 9) || !in(who, 0, 255)) {
      return -1;
    }
    Diary d = diaries.get(diary);
    if ((who & 1 << d.person) != 0 || d.lines.size() == 24) {
      return -1;
    }
    for (int ten = a; ten <= b; ten++) {
      if (d.at(ten) != null) {
        return -1;
      }
    }
    d.lines.add(new Line(a, b, word, second, place, who));
    d.lines.sort(Comparator.comparingInt(Line::a));
    return d.lines.size();
  }

  int feed(long a, long b, long c) {
    for (long part : new long[] {a, b, c}) {
      for (int i = 7; i >= 0; i--) {
        int sign = (int) (part >> 8 * i) & 255;
        if ((sign == 10 || sign > 31 && sign < 127) && tape.length() < 800) {
          tape.append((char) sign);
        }
      }
    }
    return tape.length();
  }

  int text() {
    String signs = tape.toString();
    tape.setLength(0);
    if (texts.size() == 8) {
      return -1;
    }
    List<Token> tokens = new ArrayList<>();
    Matcher matcher = TOKEN.matcher(signs);
    while (matcher.find()) {
      tokens.add(new Token(matcher.group(), matcher.start()));
    }
    tokens.add(new Token("", signs.length()));
    int fault = fault(tokens);
    if (fault == 0) {
      texts.add(rules(tokens));
      chosen = texts.size() - 1;
    }
    return fault;
  }

  /** Goes from token to token; the state tells what may stand there. */
  private static int fault(List<Token> tokens) {
    String state = "rule";
    int rules = 0;
    int most = 0;
    ArrayList<Boolean> compared = new ArrayList<>();
    for (Token token : tokens) {
      String sign = token.sign;
      int kind = 0;
      switch (state) {
        case "rule", "end" -> {
          if (sign.isEmpty()) {
            return 0;
          }
          if (state.equals("rule") && sign.equals("code")) {
            rules++;
            kind = rules > 24 ? 5 : 0;
            state = "code";
          } else if (state.equals("rule") && sign.equals("mend")) {
            state = "mend";
          } else {
            kind = 1;
          }
        }
        case "code" -> {
          kind = !token.isNumber() ? 1 : token.value() > 49 ? 4 : 0;
          state = "when";
        }
        case "when" -> {
          kind = sign.equals("when") ? 0 : 1;
          compared.clear();
          compared.add(false);
          state = "part";
        }
        case "mend" -> {
          kind = !token.isNumber() ? 1 : !in(token.value(), 1, 143) ? 4 : 0;
          state = "mended";
        }
        case "mended" -> {
          kind = sign.equals(";") ? 0 : 1;
          state = "end";
        }
        case "of" -> {
          kind = !token.isNumber() ? 1 : !in(token.value(), 1, 200) ? 4 : 0;
          state = "behind";
        }
        case "part" -> {
          boolean of = List.of("word", "second", "next").contains(sign);
          boolean alone = token.isNumber()
              || List.of("place", "with", "from", "long", "ahead", "age", "day").contains(sign);
          if (!of && !alone && !sign.equals("(")) {
            kind = 1;
          } else if (compared.size() > 5) {
            kind = 5;
          } else if (sign.equals("(")) {
            compared.add(false);
          } else {
            state = of ? "of" : "behind";
          }
        }
        default -> {
          int last = compared.size() - 1;
          if (sign.equals("+") || sign.equals("-")) {
            state = "part";
          } else if ((sign.equals("<") || sign.equals("=")) && !compared.get(last)) {
            compared.set(last, true);
            state = "part";
          } else if (sign.equals("and")) {
            compared.set(last, false);
            state = "part";
          } else if (sign.equals(")") && last > 0) {
            compared.remove(last);
          } else if (sign.equals(";") && last == 0) {
            state = "rule";
          } else {
            kind = 1;
          }
        }
      }
      if (kind != 0) {
        return kind + 16 * token.place;
      }
      most++;
    }
    throw new IllegalStateException("no end in " + most + " tokens");
  }

  private static Text rules(List<Token> tokens) {
    List<Rule> rules = new ArrayList<>();
    int mend = 0;
    int start = 0;
    for (int i = 0; i < tokens.size(); i++) {
      if (tokens.get(i).sign.equals(";")) {
        int n = tokens.get(start + 1).value();
        if (tokens.get(start).sign.equals("mend")) {
          mend = n;
        } else {
          rules.add(new Rule(n, tokens.subList(start + 3, i)));
        }
        start = i + 1;
      }
    }
    return new Text(rules, mend);
  }

  /** The last place, outside of brackets, of one of the signs; -1 without one. */
  private static int lastOf(List<Token> tokens, List<String> signs) {
    int within = 0;
    for (int i = tokens.size() - 1; i >= 0; i--) {
      String sign = tokens.get(i).sign;
      within += sign.equals(")") ? 1 : sign.equals("(") ? -1 : 0;
      if (within == 0 && signs.contains(sign)) {
        return i;
      }
    }
    return -1;
  }

  private int value(List<Token> e, Diary d, int at, int word, int second) {
    for (List<String> joins : List.of(List.of("and"), List.of("<", "="), List.of("+", "-"))) {
      int cut = lastOf(e, joins);
      if (cut >= 0) {
        int left = value(e.subList(0, cut), d, at, word, second);
        int right = value(e.subList(cut + 1, e.size()), d, at, word, second);
        return switch (e.get(cut).sign) {
          case "and" -> left != 0 && right != 0 ? 1 : 0;
          case "<" -> left < right ? 1 : 0;
          case "=" -> left == right ? 1 : 0;
          case "+" -> left + right;
          default -> left - right;
        };
      }
    }
    Token first = e.get(0);
    Line line = d.lines.get(at);
    return switch (first.sign) {
      case "(" -> value(e.subList(1, e.size() - 1), d, at, word, second);
      case "word" -> under(word, e.get(1).value());
      case "second" -> under(second, e.get(1).value());
      case "next" -> at + 1 == d.lines.size() ? 0
          : under(d.lines.get(at + 1).word, e.get(1).value());
      case "place" -> line.place;
      case "with" -> Integer.toBinaryString(line.who).replace("0", "").length();
      case "from" -> line.a;
      case "long" -> line.b - line.a + 1;
      case "ahead" -> at == 0 ? -1 : codeOf(d, at - 1);
      case "age" -> d.age;
      case "day" -> d.day;
      default -> first.value();
    };
  }

  private int codeAs(Diary d, int at, int word, int second) {
    if (chosen < 0) {
      return -1;
    }
    for (Rule rule : texts.get(chosen).rules) {
      if (value(rule.when, d, at, word, second) != 0) {
        return rule.code;
      }
    }
    return -1;
  }

  private final Map<List<Object>, Integer> codes = new HashMap<>();

  /** Kept within a call alone: a text of many "ahead" would go back over the day again and again. */
  private int codeOf(Diary d, int at) {
    List<Object> key = List.of(diaries.indexOf(d), at);
    Integer known = codes.get(key);
    if (known == null) {
      Line line = d.lines.get(at);
      known = codeAs(d, at, line.word, line.second);
      codes.put(key, known);
    }
    return known;
  }

  private int secondCodeOf(Diary d, int at) {
    Line line = d.lines.get(at);
    return line.second == 0 ? -1 : codeAs(d, at, line.second, 0);
  }

  boolean choose(int text) {
    if (!in(text, -1, texts.size() - 1)) {
      return false;
    }
    chosen = text;
    return true;
  }

  private boolean isLine(int diary, int line) {
    return in(diary, 0, diaries.size() - 1) && in(line, 0, diaries.get(diary).lines.size() - 1);
  }

  int code(int diary, int line) {
    codes.clear();
    return isLine(diary, line) ? codeOf(diaries.get(diary), line) : -2;
  }

  int look(int diary, int line, int what) {
    if (!isLine(diary, line) || !in(what, 0, 5)) {
      throw new NoSuchElementException();
    }
    Line l = diaries.get(diary).lines.get(line);
    return new int[] {l.a, l.b, l.word, l.second, l.place, l.who}[what];
  }

  /** What each of the tens is. */
  private int[] tens(Diary d) {
    int[] tens = new int[144];
    for (int ten = 0; ten < 144; ten++) {
      Line line = d.at(ten);
      if (line != null) {
        tens[ten] = codeOf(d, d.lines.indexOf(line));
        continue;
      }
      int from = ten;
      int to = ten;
      while (from >= 0 && d.at(from) == null) {
        from--;
      }
      while (to < 144 && d.at(to) == null) {
        to++;
      }
      tens[ten] = -2;
      if (from >= 0 && to < 144 && chosen >= 0 && to - from - 1 <= texts.get(chosen).mend) {
        int left = codeOf(d, d.lines.indexOf(d.at(from)));
        int right = codeOf(d, d.lines.indexOf(d.at(to)));
        tens[ten] = left == right && left != -1 ? 100 + left : -2;
      }
    }
    return tens;
  }

  int ten(int diary, int ten) {
    codes.clear();
    if (!in(diary, 0, diaries.size() - 1) || !in(ten, 0, 143)) {
      return -3;
    }
    return tens(diaries.get(diary))[ten];
  }

  boolean known(int sort, int count) {
    if (!in(sort, 0, 4) || !in(count, 1, 1000000)) {
      return false;
    }
    counts[sort] = count;
    return true;
  }

  private List<Diary> ofSort(int sort) {
    return diaries.stream()
        .filter(d -> sort < 2 ? (d.day > 4 ? 1 : 0) == sort : d.age == sort - 2).toList();
  }

  int rounds(int n) {
    if (!in(n, 0, 20)) {
      return -1;
    }
    for (int i = 0; i < n; i++) {
      for (int sort = 0; sort < 5; sort++) {
        long sum = ofSort(sort).stream().mapToLong(d -> d.weight).sum();
        for (Diary d : ofSort(sort)) {
          d.weight = sum == 0 ? d.weight
              : Math.multiplyExact(Math.multiplyExact(d.weight, counts[sort]), 1000L) / sum;
        }
      }
    }
    long greatest = 0;
    for (int sort = 0; sort < 5; sort++) {
      long sum = ofSort(sort).stream().mapToLong(d -> d.weight).sum();
      long difference = sum / 1000 - counts[sort];
      if (!ofSort(sort).isEmpty()) {
        greatest = Math.max(greatest, Math.max(difference, -difference));
      }
    }
    return Math.toIntExact(greatest);
  }

  int weight(int diary) {
    return in(diary, 0, diaries.size() - 1) ? Math.toIntExact(diaries.get(diary).weight) : -1;
  }

  private boolean isIn(Diary d, int at, int code, int sort) {
    boolean first = codeOf(d, at) == code;
    boolean second = secondCodeOf(d, at) == code;
    return sort == 0 ? first : sort == 1 ? second : first || second;
  }

  int cell(int code, int sort, boolean weighted) {
    codes.clear();
    if (!in(code, 0, 49) || !in(sort, 0, 3)) {
      return -1;
    }
    long sum = 0;
    for (Diary d : diaries) {
      int[] tens = tens(d);
      for (int ten = 0; ten < 144; ten++) {
        Line line = d.at(ten);
        boolean counts = sort == 3 ? tens[ten] == 100 + code
            : line != null && isIn(d, d.lines.indexOf(line), code, sort);
        sum += counts ? (weighted ? d.weight : 1) : 0;
      }
    }
    return Math.toIntExact(weighted ? sum / 1000 : sum);
  }

  int lead(int code, int sort, int i) {
    codes.clear();
    List<Integer> found = new ArrayList<>();
    if (in(code, 0, 49) && in(sort, 0, 2)) {
      for (int d = 0; d < diaries.size(); d++) {
        for (int k = 0; k < diaries.get(d).lines.size(); k++) {
          if (isIn(diaries.get(d), k, code, sort)) {
            found.add(100 * d + k);
          }
        }
      }
    }
    return in(i, 0, found.size() - 1) ? found.get(i) : -1;
  }

  int next(int a, int b) {
    codes.clear();
    if (!in(a, 0, 49) || !in(b, 0, 49)) {
      return -1;
    }
    int found = 0;
    for (Diary d : diaries) {
      int[] tens = tens(d);
      for (int k = 1; k < d.lines.size(); k++) {
        boolean joined = true;
        for (int ten = d.lines.get(k - 1).b; ten < d.lines.get(k).a; ten++) {
          joined &= tens[ten] != -2;
        }
        found += joined && codeOf(d, k - 1) == a && codeOf(d, k) == b ? 1 : 0;
      }
    }
    return found;
  }

  int quarrels(int house, int day) {
    if (!in(house, 0, 9) || !in(day, 0, 6)) {
      return -1;
    }
    int found = 0;
    for (int ten = 0; ten < 144; ten++) {
      for (Diary p : diaries) {
        for (Diary q : diaries) {
          if (p.house == house && q.house == house && p.day == day && q.day == day) {
            Line says = p.at(ten);
            Line denies = q.at(ten);
            found += says != null && denies != null && (says.who >> q.person) % 2 == 1
                && (denies.who >> p.person) % 2 == 0 ? 1 : 0;
          }
        }
      }
    }
    return found;
  }

  int day(int diary, int what) {
    codes.clear();
    if (!in(diary, 0, diaries.size() - 1) || !in(what, 0, 7)) {
      throw new NoSuchElementException();
    }
    Diary d = diaries.get(diary);
    int gaps = 0;
    int mended = 0;
    int without = 0;
    for (int ten : tens(d)) {
      gaps += ten == -2 || ten >= 100 ? 1 : 0;
      mended += ten >= 100 ? 1 : 0;
    }
    for (int k = 0; k < d.lines.size(); k++) {
      without += codeOf(d, k) == -1 ? 1 : 0;
    }
    return new int[] {d.lines.size(), gaps, mended, without, d.house, d.person, d.day, d.age}[what];
  }

  int count(int what) {
    return switch (what) {
      case 0 -> diaries.size();
      case 1 -> texts.size();
      case 2 -> chosen;
      case 3 -> tape.length();
      case 4 -> diaries.stream().mapToInt(d -> d.lines.size()).sum();
      case 5 -> chosen < 0 ? 0 : texts.get(chosen).rules.size();
      default -> -1;
    };
  }
}
