import java.util.ArrayList;
import java.util.Arrays;
import java.util.NoSuchElementException;

/**
 * Days of persons told in tens of minutes, coded by texts of rules, weighted to known counts and
 * counted in tables. The words in capitals are those of the document.
 */
public final class DayDiary {
    public static final int NONE = -1;

    private static final int MOST_WORDS = 200;
    private static final int MOST_DIARIES = 40;
    private static final int MOST_LINES = 24;
    private static final int MOST_TEXTS = 8;
    private static final int MOST_RULES = 24;
    private static final int MOST_SIGNS = 800;
    private static final int MOST_WITHIN = 5;
    private static final int MOST_ROUNDS = 20;
    private static final int MOST_KNOWN = 1000000;
    private static final int MOST_LETTERS = 8;
    private static final int MOST_DIGITS = 4;

    private static final int LAST_HOUSE = 9;
    private static final int LAST_PERSON = 7;
    private static final int LAST_DAY = 6;
    private static final int LAST_WORKDAY = 4;
    private static final int LAST_AGE = 2;
    private static final int LAST_TEN = 143;
    private static final int LAST_PLACE = 9;
    private static final int LAST_WHO = 255;
    private static final int LAST_CODE = 49;

    private static final int NO_LINE = -2;
    private static final int GAP = -2;
    private static final int NO_TEN = -3;
    private static final int MENDED_GAP = 100;

    private static final int FIRST_WEIGHT = 1000000;
    private static final int WEIGHT_OF_ONE = 1000;

    /** The sorts of counts: two of days, then one for each age. */
    private static final int SORTS = 5;
    private static final int WORKDAYS = 0;
    private static final int OTHER_DAYS = 1;
    private static final int FIRST_AGE = 2;

    /** The sorts of CELLS. */
    private static final int FIRST_DEED = 0;
    private static final int SECOND_DEED = 1;
    private static final int EITHER_DEED = 2;
    private static final int MENDED_TENS = 3;

    /** The kinds of FAULTS. */
    private static final int MISPLACED = 1;
    private static final int WRONG_NUMBER = 4;
    private static final int TOO_MANY = 5;

    /** The kinds of tokens; those of parts and joins are the kinds of a program's steps, too. */
    private static final int STRAY = 0;
    private static final int END = 1;
    private static final int NUMBER = 2;
    private static final int OPEN = 3;
    private static final int CLOSE = 4;
    private static final int SEMICOLON = 5;
    private static final int LESS = 6;
    private static final int EQUAL = 7;
    private static final int PLUS = 8;
    private static final int MINUS = 9;
    private static final int AND = 10;
    private static final int CODE = 11;
    private static final int WHEN = 12;
    private static final int MEND = 13;
    private static final int WORD = 14;
    private static final int SECOND = 15;
    private static final int NEXT = 16;
    private static final int PLACE = 17;
    private static final int WITH = 18;
    private static final int FROM = 19;
    private static final int LONG = 20;
    private static final int AHEAD = 21;
    private static final int AGE = 22;
    private static final int DAY = 23;

    /** And, comparison and sum of each of the levels may wait while the last PART is read. */
    private static final int STACK_SIZE = 3 * MOST_WITHIN + 1;

    private final Words words = new Words();
    private final ArrayList<Diary> diaries = new ArrayList<>();
    private final ArrayList<Text> texts = new ArrayList<>();
    private final Text noText = new Text(new int[0], new int[0], new int[0], new int[0], 0);
    private final Tape tape = new Tape();
    private final Parser parser = new Parser();
    private final Coder coder = new Coder(words);
    private final int[] counts = {1, 1, 1, 1, 1};
    private int chosen = NONE;

    /** Changes with the words and with the text in force: CODES of another version are stale. */
    private int version = 0;

    public DayDiary() {
    }

    public boolean below(int word, int other) {
        if (!isWithin(word, 1, MOST_WORDS) || !isWithin(other, 1, MOST_WORDS) || other >= word) {
            return false;
        }
        words.putBelow(word, other);
        version++;
        return true;
    }

    public int diary(int house, int person, int day, int age) {
        if (!isHouseAndDay(house, day) || !isWithin(person, 0, LAST_PERSON)
                || !isWithin(age, 0, LAST_AGE) || diaries.size() >= MOST_DIARIES) {
            return NONE;
        }
        for (int i = 0; i < diaries.size(); i++) {
            Diary other = diaries.get(i);
            if (other.isOf(house, day) && other.person == person) {
                return NONE;
            }
        }
        diaries.add(new Diary(house, person, day, age));
        return diaries.size() - 1;
    }

    public int line(int diary, int a, int b, int word, int second, int place, int who) {
        Diary into = find(diary);
        if (into == null || into.lines.size() >= MOST_LINES) {
            return NONE;
        }
        if (!isWithin(a, 0, LAST_TEN) || !isWithin(b, a, LAST_TEN)
                || !isWithin(word, 1, MOST_WORDS) || !isWithin(second, 0, MOST_WORDS)
                || !isWithin(place, 0, LAST_PLACE) || !isWithin(who, 0, LAST_WHO)
                || holds(who, into.person)) {
            return NONE;
        }
        if (!into.insert(new Line(a, b, word, second, place, who))) {
            return NONE;
        }
        return into.lines.size();
    }

    public int feed(long a, long b, long c) {
        tape.addBytes(a);
        tape.addBytes(b);
        tape.addBytes(c);
        return tape.size;
    }

    public int text() {
        if (texts.size() >= MOST_TEXTS) {
            tape.size = 0;
            return -1;
        }
        int fault = parser.read(tape);
        tape.size = 0;
        if (fault == 0) {
            texts.add(parser.makeText());
            putInForce(texts.size() - 1);
        }
        return fault;
    }

    public boolean choose(int text) {
        if (text != NONE && !isWithin(text, 0, texts.size() - 1)) {
            return false;
        }
        putInForce(text);
        return true;
    }

    public int code(int diary, int line) {
        Diary of = findCoded(diary);
        if (of == null || !isWithin(line, 0, of.lines.size() - 1)) {
            return NO_LINE;
        }
        return of.lines.get(line).code;
    }

    public int look(int diary, int line, int what) throws NoSuchElementException {
        Diary of = find(diary);
        if (of == null || !isWithin(line, 0, of.lines.size() - 1)) {
            throw new NoSuchElementException("no such line");
        }
        Line seen = of.lines.get(line);
        switch (what) {
            case 0: return seen.from;
            case 1: return seen.to;
            case 2: return seen.word;
            case 3: return seen.second;
            case 4: return seen.place;
            case 5: return seen.who;
            default: throw new NoSuchElementException("a line has no such thing");
        }
    }

    public int ten(int diary, int ten) {
        Diary of = findCoded(diary);
        if (of == null || !isWithin(ten, 0, LAST_TEN)) {
            return NO_TEN;
        }
        for (int i = 0; i < of.lines.size(); i++) {
            Line line = of.lines.get(i);
            if (ten < line.from) {
                return line.mendedAhead > 0 ? MENDED_GAP + line.code : GAP;
            }
            if (ten <= line.to) {
                return line.code;
            }
        }
        return GAP;
    }

    public boolean known(int sort, int count) {
        if (!isWithin(sort, 0, SORTS - 1) || !isWithin(count, 1, MOST_KNOWN)) {
            return false;
        }
        counts[sort] = count;
        return true;
    }

    public int rounds(int n) {
        if (!isWithin(n, 0, MOST_ROUNDS)) {
            return NONE;
        }
        for (int i = 0; i < n; i++) {
            for (int sort = 0; sort < SORTS; sort++) {
                weighSort(sort);
            }
        }
        return greatestDifference();
    }

    public int weight(int diary) {
        Diary of = find(diary);
        return of == null ? NONE : of.weight;
    }

    public int cell(int code, int sort, boolean weighted) {
        if (!isWithin(code, 0, LAST_CODE) || !isWithin(sort, FIRST_DEED, MENDED_TENS)) {
            return NONE;
        }
        codeDiaries();
        long sum = 0;
        for (int i = 0; i < diaries.size(); i++) {
            Diary diary = diaries.get(i);
            long tens = diary.tensInCell(code, sort);
            sum += weighted ? tens * diary.weight : tens;
        }
        return (int) (weighted ? sum / WEIGHT_OF_ONE : sum);
    }

    public int lead(int code, int sort, int i) {
        if (!isWithin(code, 0, LAST_CODE) || !isWithin(sort, FIRST_DEED, EITHER_DEED) || i < 0) {
            return NONE;
        }
        codeDiaries();
        int left = i;
        for (int d = 0; d < diaries.size(); d++) {
            Diary diary = diaries.get(d);
            for (int k = 0; k < diary.lines.size(); k++) {
                if (!diary.lines.get(k).isInCell(code, sort)) {
                    continue;
                }
                if (left == 0) {
                    return 100 * d + k;
                }
                left--;
            }
        }
        return NONE;
    }

    public int next(int a, int b) {
        if (!isWithin(a, 0, LAST_CODE) || !isWithin(b, 0, LAST_CODE)) {
            return NONE;
        }
        codeDiaries();
        int found = 0;
        for (int i = 0; i < diaries.size(); i++) {
            found += diaries.get(i).followers(a, b);
        }
        return found;
    }

    public int quarrels(int house, int day) {
        if (!isHouseAndDay(house, day)) {
            return NONE;
        }
        int tens = 0;
        for (int p = 0; p < diaries.size(); p++) {
            Diary telling = diaries.get(p);
            for (int q = 0; q < diaries.size() && telling.isOf(house, day); q++) {
                Diary other = diaries.get(q);
                tens += other.isOf(house, day) ? telling.tensDeniedBy(other) : 0;
            }
        }
        return tens;
    }

    public int day(int diary, int what) throws NoSuchElementException {
        Diary of = findCoded(diary);
        if (of == null) {
            throw new NoSuchElementException("no such diary");
        }
        switch (what) {
            case 0: return of.lines.size();
            case 1: return of.tensWithoutLine();
            case 2: return of.tensMended();
            case 3: return of.linesWithoutCode();
            case 4: return of.house;
            case 5: return of.person;
            case 6: return of.day;
            case 7: return of.age;
            default: throw new NoSuchElementException("a diary has no such thing");
        }
    }

    public int count(int what) {
        switch (what) {
            case 0: return diaries.size();
            case 1: return texts.size();
            case 2: return chosen;
            case 3: return tape.size;
            case 4: return linesInAll();
            case 5: return textInForce().codes.length;
            default: return NONE;
        }
    }

    private static boolean isWithin(int number, int least, int most) {
        return number >= least && number <= most;
    }

    private static boolean isHouseAndDay(int house, int day) {
        return isWithin(house, 0, LAST_HOUSE) && isWithin(day, 0, LAST_DAY);
    }

    private static boolean holds(int who, int person) {
        return (who >> person & 1) != 0;
    }

    private Diary find(int diary) {
        return isWithin(diary, 0, diaries.size() - 1) ? diaries.get(diary) : null;
    }

    private Diary findCoded(int diary) {
        Diary found = find(diary);
        if (found != null) {
            coder.refresh(found, textInForce(), version);
        }
        return found;
    }

    private void codeDiaries() {
        for (int i = 0; i < diaries.size(); i++) {
            coder.refresh(diaries.get(i), textInForce(), version);
        }
    }

    private Text textInForce() {
        return isWithin(chosen, 0, texts.size() - 1) ? texts.get(chosen) : noText;
    }

    private void putInForce(int text) {
        chosen = text;
        version++;
    }

    private int linesInAll() {
        int sum = 0;
        for (int i = 0; i < diaries.size(); i++) {
            sum += diaries.get(i).lines.size();
        }
        return sum;
    }

    private long weightOfSort(int sort) {
        long sum = 0;
        for (int i = 0; i < diaries.size(); i++) {
            Diary diary = diaries.get(i);
            sum += diary.isOfSort(sort) ? diary.weight : 0;
        }
        return sum;
    }

    private void weighSort(int sort) {
        long sum = weightOfSort(sort);
        if (sum == 0 || !isWithin(sort, 0, SORTS - 1)) {
            return;
        }
        for (int i = 0; i < diaries.size(); i++) {
            Diary diary = diaries.get(i);
            if (diary.isOfSort(sort)) {
                // A weight is at most 1000000000, so that the product stays below 2 to the 63rd.
                diary.weight = (int) ((long) diary.weight * counts[sort] * WEIGHT_OF_ONE / sum);
            }
        }
    }

    private boolean hasSort(int sort) {
        for (int i = 0; i < diaries.size(); i++) {
            if (diaries.get(i).isOfSort(sort)) {
                return true;
            }
        }
        return false;
    }

    private int greatestDifference() {
        long greatest = 0;
        for (int sort = 0; sort < SORTS; sort++) {
            if (hasSort(sort)) {
                long difference = Math.abs(weightOfSort(sort) / WEIGHT_OF_ONE - counts[sort]);
                greatest = Math.max(greatest, difference);
            }
        }
        return (int) greatest;
    }

    /** The tree of words. */
    private static final class Words {
        /** What each word is below, 0 for nothing; always less than the word, so chains end. */
        private final int[] above = new int[MOST_WORDS + 1];

        void putBelow(int word, int other) {
            if (isWithin(word, 1, MOST_WORDS)) {
                above[word] = other;
            }
        }

        boolean isUnder(int word, int other) {
            int at = word;
            for (int i = 0; i < MOST_WORDS && at > other && at > 0 && at <= MOST_WORDS; i++) {
                at = above[at];
            }
            return at == other;
        }
    }

    /** A line, with what the text in force makes of it (as of its diary's version). */
    private static final class Line {
        final int from;
        final int to;
        final int word;
        final int second;
        final int place;
        final int who;
        int code = NONE;
        int secondCode = NONE;
        /** The TENS of the GAP right ahead of the line, if it is MENDED; else 0. */
        int mendedAhead = 0;

        Line(int from, int to, int word, int second, int place, int who) {
            this.from = from;
            this.to = to;
            this.word = word;
            this.second = second;
            this.place = place;
            this.who = who;
        }

        int length() {
            return to - from + 1;
        }

        boolean isInCell(int wanted, int sort) {
            boolean first = sort != SECOND_DEED && code == wanted;
            boolean other = sort != FIRST_DEED && secondCode == wanted;
            return first || other;
        }

        int tensInCommon(Line other) {
            return Math.max(0, Math.min(to, other.to) - Math.max(from, other.from) + 1);
        }
    }

    /** A diary: its lines stand in the order of their TENS. */
    private static final class Diary {
        final int house;
        final int person;
        final int day;
        final int age;
        final ArrayList<Line> lines = new ArrayList<>();
        int weight = FIRST_WEIGHT;
        /** The version by which the lines are coded; NONE if a line came since. */
        int codedVersion = NONE;

        Diary(int house, int person, int day, int age) {
            this.house = house;
            this.person = person;
            this.day = day;
            this.age = age;
        }

        boolean isOf(int wantedHouse, int wantedDay) {
            return house == wantedHouse && day == wantedDay;
        }

        boolean isOfSort(int sort) {
            switch (sort) {
                case WORKDAYS: return day <= LAST_WORKDAY;
                case OTHER_DAYS: return day > LAST_WORKDAY;
                default: return age == sort - FIRST_AGE;
            }
        }

        /** False, and no line put, if another one has one of its TENS. */
        boolean insert(Line added) {
            int at = 0;
            for (int i = 0; i < lines.size(); i++) {
                Line line = lines.get(i);
                if (line.tensInCommon(added) > 0) {
                    return false;
                }
                at += line.to < added.from ? 1 : 0;
            }
            lines.add(at, added);
            codedVersion = NONE;
            return true;
        }

        int tensInCell(int code, int sort) {
            int tens = 0;
            for (int i = 0; i < lines.size(); i++) {
                Line line = lines.get(i);
                if (sort == MENDED_TENS) {
                    tens += line.code == code ? line.mendedAhead : 0;
                } else if (line.isInCell(code, sort)) {
                    tens += line.length();
                }
            }
            return tens;
        }

        int followers(int a, int b) {
            int found = 0;
            for (int i = 1; i < lines.size(); i++) {
                Line ahead = lines.get(i - 1);
                Line line = lines.get(i);
                boolean joined = ahead.to + 1 == line.from || line.mendedAhead > 0;
                found += joined && ahead.code == a && line.code == b ? 1 : 0;
            }
            return found;
        }

        int tensDeniedBy(Diary other) {
            int tens = 0;
            for (int i = 0; i < lines.size(); i++) {
                Line line = lines.get(i);
                if (holds(line.who, other.person)) {
                    tens += other.tensWithout(person, line);
                }
            }
            return tens;
        }

        /** The TENS of a line in which this diary has a line that does not name the person. */
        int tensWithout(int absent, Line told) {
            int tens = 0;
            for (int i = 0; i < lines.size(); i++) {
                Line line = lines.get(i);
                tens += holds(line.who, absent) ? 0 : line.tensInCommon(told);
            }
            return tens;
        }

        int tensWithoutLine() {
            int tens = LAST_TEN + 1;
            for (int i = 0; i < lines.size(); i++) {
                tens -= lines.get(i).length();
            }
            return tens;
        }

        int tensMended() {
            int tens = 0;
            for (int i = 0; i < lines.size(); i++) {
                tens += lines.get(i).mendedAhead;
            }
            return tens;
        }

        int linesWithoutCode() {
            int found = 0;
            for (int i = 0; i < lines.size(); i++) {
                found += lines.get(i).code == NONE ? 1 : 0;
            }
            return found;
        }
    }

    /** The signs that wait to be read. */
    private static final class Tape {
        final char[] signs = new char[MOST_SIGNS];
        int size = 0;

        void addBytes(long eight) {
            for (int shift = 56; shift >= 0; shift -= 8) {
                int sign = (int) (eight >>> shift & 255);
                if ((sign == 10 || isWithin(sign, 32, 126)) && size < MOST_SIGNS) {
                    signs[size] = (char) sign;
                    size++;
                }
            }
        }

        /** The place behind the signs first to last that stand from a place on. */
        int endOfRun(int start, char first, char last) {
            int end = start;
            for (int i = start; i < size && i < MOST_SIGNS; i++) {
                if (!isWithin(signs[i], first, last)) {
                    break;
                }
                end = i + 1;
            }
            return end;
        }

        boolean spells(String word, int start, int end) {
            if (word.length() != end - start || start < 0 || end > size || end > MOST_SIGNS) {
                return false;
            }
            for (int i = 0; i < word.length(); i++) {
                if (word.charAt(i) != signs[start + i]) {
                    return false;
                }
            }
            return true;
        }
    }

    /** The tokens of a tape, the last of them being its end. */
    private static final class Tokens {
        final int[] kinds = new int[MOST_SIGNS + 1];
        final int[] values = new int[MOST_SIGNS + 1];
        final int[] places = new int[MOST_SIGNS + 1];
        int size = 0;

        void scan(Tape tape) {
            size = 0;
            int at = 0;
            for (int i = 0; i < MOST_SIGNS && at < tape.size && at < MOST_SIGNS; i++) {
                char sign = tape.signs[at];
                int end = at + 1;
                if (isWithin(sign, 'a', 'z')) {
                    end = tape.endOfRun(at, 'a', 'z');
                    add(kindOfWord(tape, at, end), 0, at);
                } else if (isWithin(sign, '0', '9')) {
                    end = tape.endOfRun(at, '0', '9');
                    addNumber(tape, at, end);
                } else if (sign != 10 && sign != ' ') {
                    add(kindOfSign(sign), 0, at);
                }
                at = end;
            }
            add(END, 0, tape.size);
        }

        private void add(int kind, int value, int place) {
            if (size < MOST_SIGNS + 1) {
                kinds[size] = kind;
                values[size] = value;
                places[size] = place;
                size++;
            }
        }

        private void addNumber(Tape tape, int start, int end) {
            if (end - start > MOST_DIGITS) {
                add(STRAY, 0, start);
                return;
            }
            int value = 0;
            for (int i = start; i < end && i < MOST_SIGNS; i++) {
                value = 10 * value + (tape.signs[i] - '0');
            }
            add(NUMBER, value, start);
        }

        /** A word that no rule knows can't stand anywhere: it is as good as no token. */
        private static int kindOfWord(Tape tape, int start, int end) {
            if (end - start > MOST_LETTERS) {
                return STRAY;
            }
            for (int kind = AND; kind <= DAY; kind++) {
                if (tape.spells(spelling(kind), start, end)) {
                    return kind;
                }
            }
            return STRAY;
        }

        private static String spelling(int kind) {
            switch (kind) {
                case AND: return "and";
                case CODE: return "code";
                case WHEN: return "when";
                case MEND: return "mend";
                case WORD: return "word";
                case SECOND: return "second";
                case NEXT: return "next";
                case PLACE: return "place";
                case WITH: return "with";
                case FROM: return "from";
                case LONG: return "long";
                case AHEAD: return "ahead";
                case AGE: return "age";
                case DAY: return "day";
                default: return "";
            }
        }

        private static int kindOfSign(char sign) {
            switch (sign) {
                case '(': return OPEN;
                case ')': return CLOSE;
                case ';': return SEMICOLON;
                case '<': return LESS;
                case '=': return EQUAL;
                case '+': return PLUS;
                case '-': return MINUS;
                default: return STRAY;
            }
        }
    }

    /** The rules of a text, each E as steps for a stack: parts, and joins of the two parts on top. */
    private static final class Text {
        /** Of each rule its N, and the place behind its last step. */
        final int[] codes;
        final int[] ends;
        final int[] steps;
        final int[] values;
        /** The longest GAP that is MENDED; 0: none is. */
        final int mend;

        Text(int[] codes, int[] ends, int[] steps, int[] values, int mend) {
            this.codes = codes;
            this.ends = ends;
            this.steps = steps;
            this.values = values;
            this.mend = mend;
        }
    }

    /** Reads a tape as a text. After a FAULT the token at hand is a stray one, which ends it all. */
    private static final class Parser {
        private final Tokens tokens = new Tokens();
        private final int[] codes = new int[MOST_RULES];
        private final int[] ends = new int[MOST_RULES];
        private final int[] steps = new int[MOST_SIGNS];
        private final int[] values = new int[MOST_SIGNS];
        private int rules = 0;
        private int used = 0;
        private int mend = 0;
        private int fault = 0;
        private int at = 0;
        private int kind = STRAY;

        /** 0, or the FAULT. */
        int read(Tape tape) {
            tokens.scan(tape);
            rules = 0;
            used = 0;
            mend = 0;
            fault = 0;
            moveTo(0);
            for (int i = 0; i <= MOST_RULES && kind == CODE; i++) {
                if (rules >= MOST_RULES) {
                    fail(TOO_MANY);
                    break;
                }
                take(CODE);
                int code = takeNumber(0, LAST_CODE);
                take(WHEN);
                expression(0);
                take(SEMICOLON);
                endRule(code);
            }
            if (kind == MEND) {
                take(MEND);
                mend = takeNumber(1, LAST_TEN);
                take(SEMICOLON);
            }
            if (kind != END) {
                fail(MISPLACED);
            }
            return fault;
        }

        /** The text that was read last, if it was without FAULT. */
        Text makeText() {
            return new Text(Arrays.copyOf(codes, rules), Arrays.copyOf(ends, rules),
                    Arrays.copyOf(steps, used), Arrays.copyOf(values, used), mend);
        }

        private void endRule(int code) {
            if (rules < MOST_RULES) {
                codes[rules] = code;
                ends[rules] = used;
                rules++;
            }
        }

        private void expression(int within) {
            test(within);
            for (int i = 0; i < MOST_SIGNS && kind == AND; i++) {
                take(AND);
                test(within);
                emit(AND, 0);
            }
        }

        private void test(int within) {
            sum(within);
            int join = kind;
            if (join == LESS || join == EQUAL) {
                take(join);
                sum(within);
                emit(join, 0);
            }
        }

        private void sum(int within) {
            part(within);
            for (int i = 0; i < MOST_SIGNS && (kind == PLUS || kind == MINUS); i++) {
                int join = kind;
                take(join);
                part(within);
                emit(join, 0);
            }
        }

        private void part(int within) {
            int first = kind;
            boolean starts = first == NUMBER || first == OPEN || isWithin(first, WORD, DAY);
            if (!starts) {
                fail(MISPLACED);
            } else if (within >= MOST_WITHIN) {
                fail(TOO_MANY);
            } else if (first == OPEN) {
                take(OPEN);
                expression(within + 1);
                take(CLOSE);
            } else if (first == NUMBER) {
                emit(NUMBER, takeNumber(0, Integer.MAX_VALUE));
            } else {
                take(first);
                boolean ofWord = isWithin(first, WORD, NEXT);
                emit(first, ofWord ? takeNumber(1, MOST_WORDS) : 0);
            }
        }

        private void take(int wanted) {
            if (kind == wanted) {
                moveTo(at + 1);
            } else {
                fail(MISPLACED);
            }
        }

        private int takeNumber(int least, int most) {
            if (kind != NUMBER || at >= tokens.size) {
                fail(MISPLACED);
                return least;
            }
            int value = tokens.values[at];
            if (isWithin(value, least, most)) {
                moveTo(at + 1);
            } else {
                fail(WRONG_NUMBER);
            }
            return value;
        }

        private void moveTo(int token) {
            if (token >= 0 && token < tokens.size) {
                at = token;
                kind = tokens.kinds[token];
            }
        }

        private void fail(int how) {
            if (fault == 0 && at < tokens.size) {
                fault = how + 16 * tokens.places[at];
            }
            kind = STRAY;
        }

        private void emit(int step, int value) {
            if (used < MOST_SIGNS) {
                steps[used] = step;
                values[used] = value;
                used++;
            }
        }
    }

    /** Codes the lines of a diary by a text. */
    private static final class Coder {
        private final Words words;
        private final int[] stack = new int[STACK_SIZE];
        private int top = 0;
        private int word = 0;
        private int second = 0;
        private int nextWord = 0;
        private int ahead = NONE;

        Coder(Words words) {
            this.words = words;
        }

        void refresh(Diary diary, Text text, int version) {
            if (diary.codedVersion == version) {
                return;
            }
            diary.codedVersion = version;
            ahead = NONE;
            int lastTen = NONE;
            for (int i = 0; i < diary.lines.size(); i++) {
                Line line = diary.lines.get(i);
                nextWord = i + 1 < diary.lines.size() ? diary.lines.get(i + 1).word : 0;
                line.code = codeAs(line.word, line.second, line, diary, text);
                line.secondCode =
                        line.second == 0 ? NONE : codeAs(line.second, 0, line, diary, text);
                int gap = line.from - lastTen - 1;
                boolean mended = line.code != NONE && line.code == ahead && gap <= text.mend;
                line.mendedAhead = mended ? gap : 0;
                ahead = line.code;
                lastTen = line.to;
            }
        }

        private int codeAs(int first, int other, Line line, Diary diary, Text text) {
            word = first;
            second = other;
            int start = 0;
            for (int i = 0; i < text.codes.length && i < text.ends.length; i++) {
                if (valueOf(text, start, text.ends[i], line, diary) != 0) {
                    return text.codes[i];
                }
                start = text.ends[i];
            }
            return NONE;
        }

        private int valueOf(Text text, int start, int end, Line line, Diary diary) {
            top = 0;
            int most = Math.min(end, Math.min(text.steps.length, text.values.length));
            for (int i = Math.max(0, start); i < most; i++) {
                int step = text.steps[i];
                if (isWithin(step, LESS, AND)) {
                    joinTop(step);
                } else {
                    push(partOf(step, text.values[i], line, diary));
                }
            }
            return top == 1 ? stack[0] : 0;
        }

        private void push(int value) {
            if (top < STACK_SIZE) {
                stack[top] = value;
                top++;
            }
        }

        private void joinTop(int join) {
            if (top >= 2 && top <= STACK_SIZE) {
                top--;
                stack[top - 1] = joined(join, stack[top - 1], stack[top]);
            }
        }

        private static int joined(int join, int left, int right) {
            switch (join) {
                case LESS: return oneIf(left < right);
                case EQUAL: return oneIf(left == right);
                case PLUS: return left + right;
                case MINUS: return left - right;
                default: return oneIf(left != 0 && right != 0);
            }
        }

        private int partOf(int step, int value, Line line, Diary diary) {
            switch (step) {
                case WORD: return oneIf(words.isUnder(word, value));
                case SECOND: return oneIf(words.isUnder(second, value));
                case NEXT: return oneIf(words.isUnder(nextWord, value));
                case PLACE: return line.place;
                case WITH: return Integer.bitCount(line.who);
                case FROM: return line.from;
                case LONG: return line.length();
                case AHEAD: return ahead;
                case AGE: return diary.age;
                case DAY: return diary.day;
                default: return value;
            }
        }

        private static int oneIf(boolean holds) {
            return holds ? 1 : 0;
        }
    }
}
