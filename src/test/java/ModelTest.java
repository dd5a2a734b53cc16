import java.util.ArrayList;
import java.util.List;
import java.util.Random;
import java.util.function.ToIntFunction;
import java.util.regex.Matcher;
import java.util.regex.Pattern;

/**
 * All promises together: runs of calls drawn from a fixed seed, each answer compared with that of a
 * second program. That one is written from the document in another way: with real arrays whose
 * exceptions are the host's refusals, long numbers, and texts as functions.
 */
public final class ModelTest {
    private static final int RUNS = 1500;
    private static final int CALLS = 512;

    private static final String[] RULES = {
        "deep trod*1+y;sea 4<y and 17<hour;shine sun-depth;",
        "deep 0;sea 0;shine sun;",
        "deep trod;sea trod=3 or x=y;shine 100-depth*3;",
        "deep(y-2)*(x-3);sea hour<13 and not y<3;shine sun+hour*x-depth;",
        "deep 40-trod*20;sea hour-12-y=x;shine -depth+- -sun;",
        "deep trod*trod*trod*9999*9999;sea sun<50 and y;shine depth*depth*9999*9999+x;",
        "deep not trod;sea((hour=14)or(2<trod and trod<5));shine 99;",
    };

    public static void main(String[] args) {
        for (int seed = 1; seed <= RUNS && shown < 20; seed++) {
            run(new Random(seed), seed);
        }
        for (int seed = 1; seed <= RUNS * 2 && shown < 20; seed++) {
            runOfTexts(new Random(-seed), seed);
        }
        Due.holds("every kind of answer was seen", seenAll());
        Due.end("ModelTest");
    }

    // ---- the runs

    private static int shown = 0;
    private static final long[] answers = new long[33];
    private static final long[] goodAnswers = new long[33];

    private static boolean seenAll() {
        boolean all = true;
        for (int m = 0; m < 33; m++) {
            if (m > 0 && (answers[m] < 1000 || goodAnswers[m] < 200)) {
                System.out.println("method " + m + ": " + answers[m] + " answers, " + goodAnswers[m] + " not refused");
                all = false;
            }
        }
        return all;
    }

    private static void run(Random r, int seed) {
        RingInSand x = new RingInSand();
        Model m = new Model();
        List<String> told = new ArrayList<>();
        int calls = 0;
        calls += feedRule(r, x, m);
        if (r.nextInt(3) > 0) {
            calls += setOut(r, x, m);
        }
        while (calls < CALLS) {
            int method = 1 + r.nextInt(32);
            if (method == 5 && r.nextInt(4) > 0) {
                continue;
            }
            int[] a = arguments(r, method);
            calls++;
            if (!compare(x, m, method, a, told, seed)) {
                return;
            }
        }
    }

    private static boolean compare(RingInSand x, Model m, int method, int[] a, List<String> told, int seed) {
        String call = NAMES[method] + java.util.Arrays.toString(a);
        long got;
        try {
            got = real(x, method, a);
        } catch (RuntimeException | StackOverflowError e) {
            System.out.println("seed " + seed + ": " + call + " threw " + e);
            Due.is("seed " + seed + ": " + call, 0, 1);
            shown++;
            return false;
        }
        long want = model(m, method, a);
        told.add(call + " = " + got);
        answers[method]++;
        if (want >= 0) {
            goodAnswers[method]++;
        }
        Due.is("seed " + seed + ", call " + told.size() + ": " + call, got, want);
        if (got != want) {
            shown++;
            int from = Math.max(0, told.size() - 25);
            System.out.println("  behind " + told.subList(from, told.size()));
        }
        return got == want;
    }

    private static int feedRule(Random r, RingInSand x, Model m) {
        String text = r.nextInt(3) > 0 ? RULES[r.nextInt(RULES.length)] : writtenText(r);
        for (int i = 0; i < text.length(); i++) {
            Due.is("feed", x.feed(text.charAt(i)), m.feed(text.charAt(i)));
        }
        Due.is("text() of " + text, x.text(), m.text());
        if (r.nextInt(4) > 0) {
            Due.is("force(1)", x.force(1), m.force(1));
        }
        return text.length() + 2;
    }

    private static int setOut(Random r, RingInSand x, Model m) {
        int calls = 0;
        for (int i = 0; i < 3 + r.nextInt(4); i++) {
            int kind = r.nextInt(6);
            int number = r.nextInt(10);
            Due.is("looker", x.looker(kind, number), m.looker(kind, number));
            calls++;
        }
        for (int i = 0; i < r.nextInt(30); i++) {
            int c = r.nextInt(48);
            int v = odds(r);
            Due.is("set", x.set(0, c, v), m.set(0, c, v));
            calls++;
        }
        return calls;
    }

    /** Texts alone: their FAULTS, and what those without one tell. */
    private static void runOfTexts(Random r, int seed) {
        RingInSand x = new RingInSand();
        Model m = new Model();
        int calls = 0;
        while (calls < CALLS - 170) {
            String text = writtenText(r);
            for (int i = 0; i < text.length(); i++) {
                x.feed(text.charAt(i));
                m.feed(text.charAt(i));
            }
            long got = x.text();
            long want = m.text();
            Due.is("text seed " + seed + ": text() of [" + text.replace('\n', '|') + "]", got, want);
            calls += text.length() + 1;
            answers[6]++;
            goodAnswers[6] += want >= 0 ? 1 : 0;
            if (got != want) {
                shown++;
                return;
            }
            if (got == -4) {
                break;
            }
            if (got > 0) {
                Due.is("force", x.force((int) got), m.force((int) got));
                for (int i = 0; i < 6; i++) {
                    int c = r.nextInt(48);
                    int treads = r.nextInt(100);
                    int hour = r.nextInt(24);
                    Due.is("set", x.set(1, c, treads), m.set(1, c, treads));
                    Due.is("set", x.set(3, c, hour), m.set(3, c, hour));
                    for (int what = 2; what < 5; what++) {
                        Due.is("told(" + c + ", " + what + ") of [" + text + "]", x.told(c, what), m.told(c, what));
                    }
                    calls += 5;
                }
            }
        }
    }

    // ---- texts that are drawn

    private static String writtenText(Random r) {
        StringBuilder s = new StringBuilder();
        String[] keys = {"deep", "sea", "shine"};
        for (String key : keys) {
            blanks(r, s);
            s.append(key).append(' ');
            writeE(r, s, r.nextInt(5) == 0 ? 4 : 2);
            blanks(r, s);
            s.append(';');
        }
        blanks(r, s);
        int harms = r.nextInt(3) == 0 ? 1 + r.nextInt(2) : 0;
        for (int i = 0; i < harms; i++) {
            harm(r, s);
        }
        if (s.length() > 160 && r.nextInt(10) > 0) {
            return writtenText(r);
        }
        return s.toString();
    }

    private static void harm(Random r, StringBuilder s) {
        String letters = "()+-*<=;0123456789 \nyxnotandorseadeepQ$\t";
        int at = r.nextInt(s.length());
        switch (r.nextInt(5)) {
            case 0: s.deleteCharAt(at); break;
            case 1: s.insert(at, letters.charAt(r.nextInt(letters.length()))); break;
            case 2: s.setCharAt(at, letters.charAt(r.nextInt(letters.length()))); break;
            case 3: s.setLength(at); break;
            default: s.insert(at, WORDS[r.nextInt(WORDS.length)]);
        }
        if (s.length() == 0) {
            s.append(';');
        }
    }

    private static final String[] WORDS = {" y ", " x ", " depth ", " trod ", " hour ", " sun ", " deep ", " sea ",
        " shine ", " or ", " and ", " not ", "(", ")", "-", "+", "12345", "7"};

    private static void blanks(Random r, StringBuilder s) {
        if (r.nextInt(6) == 0) {
            s.append(r.nextBoolean() ? ' ' : '\n');
        }
    }

    private static void writeE(Random r, StringBuilder s, int left) {
        int shape = r.nextInt(left <= 0 ? 4 : 14);
        blanks(r, s);
        switch (shape) {
            case 0:
            case 1: s.append(r.nextInt(4) == 0 ? r.nextInt(10000) : r.nextInt(30)); break;
            case 2:
            case 3: s.append(WORDS[r.nextInt(6)]); break;
            case 4: joinE(r, s, left, " or "); break;
            case 5: joinE(r, s, left, " and "); break;
            case 6: joinE(r, s, left, "<"); break;
            case 7: joinE(r, s, left, "="); break;
            case 8: joinE(r, s, left, "+"); break;
            case 9: joinE(r, s, left, "-"); break;
            case 10: joinE(r, s, left, "*"); break;
            case 11:
                s.append(" not ");
                writeE(r, s, left - 1);
                break;
            case 12:
                s.append('-');
                writeE(r, s, left - 1);
                break;
            default:
                s.append('(');
                writeE(r, s, left - 1);
                s.append(')');
        }
    }

    private static void joinE(Random r, StringBuilder s, int left, String sign) {
        writeE(r, s, left - 1);
        s.append(sign);
        writeE(r, s, left - 1);
    }

    // ---- arguments that are drawn

    private static int within(Random r, int least, int greatest) {
        switch (r.nextInt(60)) {
            case 0: return least - 1;
            case 1: return greatest + 1;
            case 2: return r.nextInt();
            case 3: return r.nextBoolean() ? Integer.MIN_VALUE : Integer.MAX_VALUE;
            case 4:
            case 5: return least;
            case 6:
            case 7: return greatest;
            default: return least + r.nextInt(greatest - least + 1);
        }
    }

    private static int odds(Random r) {
        switch (r.nextInt(4)) {
            case 0: return r.nextInt(1000000);
            case 1: return r.nextInt(10);
            case 2: return 100;
            default: return r.nextInt(2000);
        }
    }

    private static final String[] NAMES = {"", "set", "told", "looker", "asks", "feed", "text", "force", "look", "next",
        "plan", "planned", "search", "giveUp", "likely", "here", "most", "under", "drowned", "seen", "crowd", "judge",
        "found", "drawn", "foundBy", "image", "back", "count", "sheet", "cell", "copy", "lookers", "taken"};

    private static int[] of(int... a) {
        return a;
    }

    private static int[] arguments(Random r, int method) {
        switch (method) {
            case 1: return setArguments(r);
            case 2: return of(within(r, 0, 47), within(r, 0, 4));
            case 3: return of(within(r, 0, 5), within(r, 0, 9));
            case 4: return of(within(r, 0, 5), within(r, 0, 47), within(r, 0, 4));
            case 5: return of(within(r, 0, 255));
            case 7: return of(within(r, 0, 1));
            case 8: return of(within(r, 0, 5), within(r, 0, 47));
            case 9: return of(within(r, 0, 2));
            case 10: return of(within(r, 0, 20), within(r, 0, 2));
            case 11: return of(within(r, 0, 19));
            case 13: return of(r.nextBoolean() ? within(r, 0, 200) : within(r, 0, 999999));
            case 14: return of(within(r, 0, 47), within(r, 0, 1));
            case 15:
            case 16:
            case 18: return of(within(r, 0, 1));
            case 17: return of(within(r, 0, 5));
            case 19: return of(within(r, 0, 3), within(r, 0, 9999));
            case 20: return of(within(r, 0, 47), within(r, 1, 8), r.nextBoolean() ? within(r, 1, 4) : within(r, 1, 99));
            case 21: return of(within(r, 0, 3));
            case 22: return of(within(r, 0, 3), within(r, 0, 1));
            case 23: return of(r.nextInt());
            case 24: return of(within(r, 0, 100000), within(r, 1, 20));
            case 27: return of(within(r, 0, 7));
            case 28: return of(within(r, 0, 3), within(r, -1, 2), r.nextInt(4) > 0 ? 2 * r.nextInt(8) : within(r, 0, 40));
            case 29: return of(within(r, 0, 3), within(r, 0, 12), itemArgument(r));
            case 30: return of(within(r, 0, 3), within(r, 0, 8), within(r, 0, 3), within(r, 0, 8), within(r, 0, 6));
            case 31: return of(within(r, 0, 3), within(r, 0, 2), within(r, 0, 8), within(r, 0, 6));
            case 32: return of(within(r, 0, 5), within(r, 0, 5));
            default: return of();
        }
    }

    private static int itemArgument(Random r) {
        switch (r.nextInt(8)) {
            case 0: return r.nextInt(48);
            case 1: return (r.nextInt(512) - 256) * 256 + r.nextInt(6);
            case 2: return (r.nextInt(512) - 256) * 65536 + r.nextInt(6);
            case 3: return r.nextInt();
            default: return r.nextInt(6);
        }
    }

    private static int[] setArguments(Random r) {
        int what = within(r, 0, 4);
        switch (what) {
            case 0: return of(what, within(r, 0, 47), r.nextInt(6) == 0 ? within(r, 0, 999999) : odds(r));
            case 1: return of(what, within(r, 0, 47), r.nextBoolean() ? within(r, 0, 5) : within(r, 0, 99));
            case 2: return of(what, r.nextInt(), r.nextBoolean() ? odds(r) : within(r, 0, 999999));
            case 3: return of(what, r.nextInt(), within(r, 0, 23));
            case 4: return of(what, r.nextInt(), within(r, 0, 59));
            default: return of(what, 0, 0);
        }
    }

    private static long real(RingInSand x, int method, int[] a) {
        switch (method) {
            case 1: return x.set(a[0], a[1], a[2]);
            case 2: return x.told(a[0], a[1]);
            case 3: return x.looker(a[0], a[1]);
            case 4: return x.asks(a[0], a[1], a[2]);
            case 5: return x.feed(a[0]);
            case 6: return x.text();
            case 7: return x.force(a[0]);
            case 8: return x.look(a[0], a[1]);
            case 9: return x.next(a[0]);
            case 10: return x.plan(a[0], a[1]);
            case 11: return x.planned(a[0]);
            case 12: return x.search();
            case 13: return x.giveUp(a[0]);
            case 14: return x.likely(a[0], a[1]);
            case 15: return x.here(a[0]);
            case 16: return x.most(a[0]);
            case 17: return x.under(a[0]);
            case 18: return x.drowned(a[0]);
            case 19: return x.seen(a[0], a[1]);
            case 20: return x.crowd(a[0], a[1], a[2]);
            case 21: return x.judge(a[0]);
            case 22: return x.found(a[0], a[1]);
            case 23: return x.drawn(a[0]);
            case 24: return x.foundBy(a[0], a[1]);
            case 25: return x.image();
            case 26: return x.back();
            case 27: return x.count(a[0]);
            case 28: return x.sheet(a[0], a[1], a[2]);
            case 29: return x.cell(a[0], a[1], a[2]);
            case 30: return x.copy(a[0], a[1], a[2], a[3], a[4]);
            case 31: return x.lookers(a[0], a[1], a[2], a[3]);
            default: return x.taken(a[0], a[1]);
        }
    }

    private static long model(Model x, int method, int[] a) {
        switch (method) {
            case 1: return x.set(a[0], a[1], a[2]);
            case 2: return x.told(a[0], a[1]);
            case 3: return x.looker(a[0], a[1]);
            case 4: return x.asks(a[0], a[1], a[2]);
            case 5: return x.feed(a[0]);
            case 6: return x.text();
            case 7: return x.force(a[0]);
            case 8: return x.look(a[0], a[1]);
            case 9: return x.next(a[0]);
            case 10: return x.plan(a[0], a[1]);
            case 11: return x.planned(a[0]);
            case 12: return x.search();
            case 13: return x.giveUp(a[0]);
            case 14: return x.likely(a[0], a[1]);
            case 15: return x.here(a[0]);
            case 16: return x.most(a[0]);
            case 17: return x.under(a[0]);
            case 18: return x.drowned(a[0]);
            case 19: return x.seen(a[0], a[1]);
            case 20: return x.crowd(a[0], a[1], a[2]);
            case 21: return x.judge(a[0]);
            case 22: return x.found(a[0], a[1]);
            case 23: return x.drawn(a[0]);
            case 24: return x.foundBy(a[0], a[1]);
            case 25: return x.image();
            case 26: return x.back();
            case 27: return x.count(a[0]);
            case 28: return x.sheet(a[0], a[1], a[2]);
            case 29: return x.cell(a[0], a[1], a[2]);
            case 30: return x.copy(a[0], a[1], a[2], a[3], a[4]);
            case 31: return x.lookers(a[0], a[1], a[2], a[3]);
            default: return x.taken(a[0], a[1]);
        }
    }

    // ---- the second program

    /** The values of y x depth trod hour sun. */
    private record Names(int y, int x, int depth, int trod, int hour) {
        int sun() {
            return Math.max(0, 100 - 10 * Math.abs(hour - 13));
        }
    }

    private record Rule(ToIntFunction<Names> deep, ToIntFunction<Names> sea, ToIntFunction<Names> shine) {
    }

    private record State(long[] odds, int[] treads, long bag, int hour, int minutes, int rule) {
        State twin() {
            return new State(odds.clone(), treads.clone(), bag, hour, minutes, rule);
        }

        State at(int newHour, int newMinutes) {
            return new State(odds, treads, bag, newHour, newMinutes, rule);
        }

        long cells() {
            return java.util.Arrays.stream(odds).sum();
        }

        long all() {
            return cells() + bag;
        }
    }

    private static final class Fault extends RuntimeException {
        private static final long serialVersionUID = 1L;
        final int place;

        Fault(int place) {
            super(null, null, false, false);
            this.place = place;
        }
    }

    private static final class Parser {
        private static final Pattern TOKEN = Pattern.compile("[a-z]+|[0-9]+|[();+*<=-]");
        private final List<String> tokens = new ArrayList<>();
        private final List<Integer> places = new ArrayList<>();
        private int at = 0;

        Parser(String s) {
            int i = 0;
            Matcher m = TOKEN.matcher(s);
            while (i < s.length()) {
                if (s.charAt(i) == ' ' || s.charAt(i) == '\n') {
                    i++;
                } else {
                    boolean is = m.region(i, s.length()).lookingAt();
                    tokens.add(is ? m.group() : "?");
                    places.add(i);
                    i += is ? m.group().length() : 1;
                }
            }
            tokens.add("");
            places.add(s.length());
        }

        private String see() {
            return tokens.get(at);
        }

        private Fault fault() {
            return new Fault(places.get(at));
        }

        private boolean eat(String t) {
            if (see().equals(t)) {
                at++;
                return true;
            }
            return false;
        }

        private void must(String t) {
            if (!eat(t)) {
                throw fault();
            }
        }

        Rule rule() {
            must("deep");
            ToIntFunction<Names> deep = either(0);
            must(";");
            must("sea");
            ToIntFunction<Names> sea = either(0);
            must(";");
            must("shine");
            ToIntFunction<Names> shine = either(0);
            must(";");
            if (at != tokens.size() - 1) {
                throw fault();
            }
            return new Rule(deep, sea, shine);
        }

        private int deeper(int open) {
            if (open >= 5) {
                throw fault();
            }
            at++;
            return open + 1;
        }

        private static int one(boolean b) {
            return b ? 1 : 0;
        }

        private ToIntFunction<Names> either(int open) {
            ToIntFunction<Names> a = both(open);
            while (eat("or")) {
                ToIntFunction<Names> l = a;
                ToIntFunction<Names> r = both(open);
                a = n -> one(l.applyAsInt(n) != 0 || r.applyAsInt(n) != 0);
            }
            return a;
        }

        private ToIntFunction<Names> both(int open) {
            ToIntFunction<Names> a = not(open);
            while (eat("and")) {
                ToIntFunction<Names> l = a;
                ToIntFunction<Names> r = not(open);
                a = n -> one(l.applyAsInt(n) != 0 && r.applyAsInt(n) != 0);
            }
            return a;
        }

        private ToIntFunction<Names> not(int open) {
            if (see().equals("not")) {
                ToIntFunction<Names> a = not(deeper(open));
                return n -> one(a.applyAsInt(n) == 0);
            }
            ToIntFunction<Names> l = sum(open);
            if (eat("<")) {
                ToIntFunction<Names> r = sum(open);
                return n -> one(l.applyAsInt(n) < r.applyAsInt(n));
            }
            if (eat("=")) {
                ToIntFunction<Names> r = sum(open);
                return n -> one(l.applyAsInt(n) == r.applyAsInt(n));
            }
            return l;
        }

        private ToIntFunction<Names> sum(int open) {
            ToIntFunction<Names> a = term(open);
            while (see().equals("+") || see().equals("-")) {
                boolean minus = see().equals("-");
                at++;
                ToIntFunction<Names> l = a;
                ToIntFunction<Names> r = term(open);
                a = n -> (int) ((long) l.applyAsInt(n) + (minus ? -1L : 1L) * r.applyAsInt(n));
            }
            return a;
        }

        private ToIntFunction<Names> term(int open) {
            ToIntFunction<Names> a = ones(open);
            while (eat("*")) {
                ToIntFunction<Names> l = a;
                ToIntFunction<Names> r = ones(open);
                a = n -> (int) ((long) l.applyAsInt(n) * r.applyAsInt(n));
            }
            return a;
        }

        private ToIntFunction<Names> ones(int open) {
            String t = see();
            if (t.equals("(")) {
                ToIntFunction<Names> a = either(deeper(open));
                must(")");
                return a;
            }
            if (t.equals("-")) {
                ToIntFunction<Names> a = ones(deeper(open));
                return n -> (int) -(long) a.applyAsInt(n);
            }
            if (t.matches("[0-9]{1,4}")) {
                int v = Integer.parseInt(t);
                at++;
                return n -> v;
            }
            ToIntFunction<Names> name = switch (t) {
                case "y" -> Names::y;
                case "x" -> Names::x;
                case "depth" -> Names::depth;
                case "trod" -> Names::trod;
                case "hour" -> Names::hour;
                case "sun" -> Names::sun;
                default -> throw fault();
            };
            at++;
            return name;
        }
    }

    private record Looker(int kind, int number) {
        int finds(int d, int s) {
            int hands = 60 + number - 6 * d;
            int plate = 70 - 2 * d;
            int all = new int[] {s - 20 * d, hands, hands + 30, plate, hands / 2 + 5 * d, plate - 3 * number}[kind];
            return Math.min(100, Math.max(0, all));
        }

        int takes() {
            return new int[] {2, 6, 6 + number, 3, 12, 3 + number}[kind];
        }

        int stamps() {
            return new int[] {2, 1, 0, 2, 1, 2 + number}[kind];
        }

        boolean isUnder(int k) {
            for (int i = kind; i >= 0; i = new int[] {-1, 0, 1, 0, 1, 3}[i]) {
                if (i == k) {
                    return true;
                }
            }
            return false;
        }
    }

    private record Step(int looker, int cell, long gain, long rate, int takes) {
    }

    private static final class Model {
        private State s = new State(new long[48], new int[48], 0, 12, 0, 0);
        private State kept = null;
        private final List<Looker> party = new ArrayList<>();
        private final List<Rule> rules = new ArrayList<>();
        private final StringBuilder tape = new StringBuilder();
        private final Object[] sheets = new Object[4];

        Model() {
            rules.add(new Parser("deep trod * 1 + y ; sea 4 < y and 17 < hour ; shine sun - depth ;").rule());
        }

        private static boolean not(long v, long least, long greatest) {
            return v < least || v > greatest;
        }

        private static int clip(int v, int greatest) {
            return v < 0 ? 0 : v > greatest ? greatest : v;
        }

        private Names names(State t, int c, int depth, int hour) {
            return new Names(c / 8, c % 8, depth, t.treads[c], hour);
        }

        private int deep(State t, int c) {
            return clip(rules.get(t.rule).deep.applyAsInt(names(t, c, 0, t.hour)), 99);
        }

        private boolean sea(State t, int c, int hour) {
            return rules.get(t.rule).sea.applyAsInt(names(t, c, 0, hour)) != 0;
        }

        private int shine(State t, int c) {
            return clip(rules.get(t.rule).shine.applyAsInt(names(t, c, deep(t, c), t.hour)), 100);
        }

        private int good(State t, Looker l, int c) {
            return sea(t, c, t.hour) ? 0 : l.finds(deep(t, c), shine(t, c));
        }

        private State looked(State t, Looker l, int c) {
            State u = t.twin();
            u.odds[c] = t.odds[c] * (100 - good(t, l, c)) / 100;
            u.treads[c] = Math.min(99, t.treads[c] + l.stamps());
            int minutes = t.hour * 60 + t.minutes + l.takes();
            return u.at(minutes / 60 % 24, minutes % 60);
        }

        private Step best(State t) {
            Step best = null;
            for (int i = 0; i < party.size(); i++) {
                for (int c = 0; c < 48; c++) {
                    if (t.odds[c] == 0) {
                        continue;
                    }
                    long gain = t.odds[c] * good(t, party.get(i), c) / 100;
                    long rate = gain / party.get(i).takes();
                    if (rate > 0 && (best == null || rate > best.rate)) {
                        best = new Step(i, c, gain, rate, party.get(i).takes());
                    }
                }
            }
            return best;
        }

        private List<Step> steps(int n) {
            List<Step> steps = new ArrayList<>();
            State t = s;
            for (Step b = best(t); steps.size() < n && b != null; b = best(t)) {
                steps.add(b);
                t = looked(t, party.get(b.looker), b.cell);
            }
            return steps;
        }

        private static long part(long a, long b, int part) {
            if (b == 0 || not(part, 0, 1)) {
                return RingInSand.NO;
            }
            long g = java.math.BigInteger.valueOf(a).gcd(java.math.BigInteger.valueOf(b)).longValue();
            return (part == 0 ? a : b) / g;
        }

        long set(int what, int of, int v) {
            int[] greatest = {999999, 99, 999999, 23, 59};
            if (not(what, 0, 4) || not(v, 0, greatest[what]) || (what < 2 && not(of, 0, 47))) {
                return -2;
            }
            State t = s;
            long was = new long[] {what < 2 ? s.odds[of] : 0, what < 2 ? s.treads[of] : 0, s.bag, s.hour, s.minutes}[what];
            switch (what) {
                case 0 -> s.odds[of] = v;
                case 1 -> s.treads[of] = v;
                case 2 -> s = new State(t.odds, t.treads, v, t.hour, t.minutes, t.rule);
                case 3 -> s = t.at(v, t.minutes);
                default -> s = t.at(t.hour, v);
            }
            return was;
        }

        long told(int c, int what) {
            if (not(c, 0, 47) || not(what, 0, 4)) {
                return -2;
            }
            return switch (what) {
                case 0 -> s.odds[c];
                case 1 -> s.treads[c];
                case 2 -> deep(s, c);
                case 3 -> sea(s, c, s.hour) ? 1 : 0;
                default -> shine(s, c);
            };
        }

        long looker(int kind, int number) {
            if (not(kind, 0, 5) || not(number, 0, 9)) {
                return -2;
            }
            if (party.size() == 6) {
                return -4;
            }
            party.add(new Looker(kind, number));
            return party.size() - 1;
        }

        long asks(int l, int c, int what) {
            if (not(l, 0, party.size() - 1) || not(c, 0, 47) || not(what, 0, 4)) {
                return -2;
            }
            Looker w = party.get(l);
            long gain = s.odds[c] * good(s, w, c) / 100;
            return new long[] {good(s, w, c), w.takes(), w.stamps(), gain, gain / w.takes()}[what];
        }

        long feed(int letter) {
            if (not(letter, 0, 255)) {
                return -2;
            }
            if (tape.length() == 160) {
                return -4;
            }
            return tape.append((char) letter).length();
        }

        long text() {
            if (rules.size() == 6) {
                return -4;
            }
            String t = tape.toString();
            tape.setLength(0);
            try {
                rules.add(new Parser(t).rule());
            } catch (Fault f) {
                return -100 - f.place;
            }
            return rules.size() - 1;
        }

        long force(int t) {
            if (not(t, 0, rules.size() - 1)) {
                return -2;
            }
            int was = s.rule;
            s = new State(s.odds, s.treads, s.bag, s.hour, s.minutes, t);
            return was;
        }

        long look(int l, int c) {
            if (not(l, 0, party.size() - 1) || not(c, 0, 47)) {
                return -2;
            }
            if (sea(s, c, s.hour)) {
                return -3;
            }
            s = looked(s, party.get(l), c);
            return s.odds[c];
        }

        long next(int what) {
            if (not(what, 0, 2)) {
                return -2;
            }
            Step b = best(s);
            return b == null ? -1 : new long[] {b.looker, b.cell, b.rate}[what];
        }

        long plan(int n, int what) {
            if (not(n, 0, 20) || not(what, 0, 2)) {
                return -2;
            }
            List<Step> all = steps(n);
            return switch (what) {
                case 0 -> all.stream().mapToLong(Step::gain).sum();
                case 1 -> all.size();
                default -> all.stream().mapToLong(Step::takes).sum();
            };
        }

        long planned(int i) {
            if (not(i, 0, 19)) {
                return -2;
            }
            List<Step> all = steps(20);
            return i < all.size() ? all.get(i).cell : -1;
        }

        long search() {
            Step b = best(s);
            if (b == null) {
                return -1;
            }
            s = looked(s, party.get(b.looker), b.cell);
            return b.cell;
        }

        long giveUp(int price) {
            return not(price, 0, 999999) ? -2 : steps(20).stream().takeWhile(b -> b.gain >= price).count();
        }

        long likely(int c, int part) {
            return not(c, 0, 47) ? RingInSand.NO : part(s.odds[c], s.all(), part);
        }

        long here(int part) {
            return part(s.cells(), s.all(), part);
        }

        long most(int what) {
            if (not(what, 0, 1)) {
                return -2;
            }
            long greatest = java.util.Arrays.stream(s.odds).max().orElse(0);
            for (int c = 0; what == 0 && c < 48; c++) {
                if (greatest > 0 && s.odds[c] == greatest) {
                    return c;
                }
            }
            return what == 0 ? -1 : s.all();
        }

        long under(int y) {
            if (not(y, 0, 5)) {
                return -2;
            }
            int bits = 0;
            for (int x = 7; x >= 0; x--) {
                bits = bits * 2 + (sea(s, 8 * y + x, s.hour) ? 1 : 0);
            }
            return bits;
        }

        private long drownedAt(int hour) {
            long sum = 0;
            for (int c = 0; c < 48; c++) {
                sum += sea(s, c, hour) ? s.odds[c] : 0;
            }
            return sum;
        }

        long drowned(int what) {
            if (not(what, 0, 1)) {
                return -2;
            }
            int best = 23;
            for (int hour = 23; hour >= s.hour; hour--) {
                best = drownedAt(hour) >= drownedAt(best) ? hour : best;
            }
            return what == 0 ? drownedAt(s.hour) : best;
        }

        private int[] numbers(Object sheet) {
            int n = java.lang.reflect.Array.getLength(sheet);
            int[] all = new int[n];
            for (int i = 0; i < n; i++) {
                all[i] = java.lang.reflect.Array.getInt(sheet, i);
            }
            return all;
        }

        long seen(int sheet, int w) {
            if (not(sheet, 0, 3) || not(w, 0, 9999)) {
                return -2;
            }
            if (sheets[sheet] == null) {
                return -11;
            }
            int[] cells = numbers(sheets[sheet]);
            for (int c : cells) {
                if (not(c, 0, 47)) {
                    return -2;
                }
            }
            for (int c : cells) {
                for (int d = 0; d < 48; d++) {
                    int far = Math.abs(c / 8 - d / 8) + Math.abs(c % 8 - d % 8);
                    s.odds[d] = Math.min(999999, s.odds[d] + (far == 0 ? w : far == 1 ? w / 2 : 0));
                }
            }
            return cells.length;
        }

        long crowd(int c, int n, int treads) {
            if (not(c, 0, 47) || not(n, 1, 8) || not(treads, 1, 99)) {
                return -2;
            }
            int there = 0;
            for (int d = c; d < c + n && d / 8 == c / 8; d++) {
                s.treads[d] = Math.min(99, s.treads[d] + treads);
                there++;
            }
            return there;
        }

        private long[] judged(int sheet) {
            if (not(sheet, 0, 3)) {
                return new long[] {-2, 0};
            }
            if (sheets[sheet] == null) {
                return new long[] {-11, 0};
            }
            int[] rows = numbers(sheets[sheet]);
            if (rows.length % 2 == 1) {
                return new long[] {-2, 0};
            }
            State t = s;
            long gains = 0;
            for (int i = 0; i < rows.length; i += 2) {
                int l = rows[i];
                int c = rows[i + 1];
                if (not(l, 0, party.size() - 1) || not(c, 0, 47) || sea(t, c, t.hour)) {
                    return new long[] {i / 2, gains};
                }
                gains += t.odds[c] * good(t, party.get(l), c) / 100;
                t = looked(t, party.get(l), c);
            }
            return new long[] {-1, gains};
        }

        long judge(int sheet) {
            return judged(sheet)[0];
        }

        long found(int sheet, int part) {
            long[] j = judged(sheet);
            return j[0] < -1 ? RingInSand.NO : part(j[1], s.all(), part);
        }

        long drawn(int seed) {
            if (s.all() == 0) {
                return -1;
            }
            long z = (seed * 1103515245L + 12345L) & 0xffffffffL;
            long rest = (z / 16) % s.all();
            for (int c = 0; c < 48; c++) {
                rest -= s.odds[c];
                if (rest < 0) {
                    return c;
                }
            }
            return -1;
        }

        long foundBy(int seed, int n) {
            if (not(n, 1, 20)) {
                return -2;
            }
            List<Step> all = steps(20);
            long times = 0;
            for (int i = 0; i < n; i++) {
                long c = drawn(seed + i);
                times += all.stream().anyMatch(b -> b.cell == c) ? 1 : 0;
            }
            return times;
        }

        long image() {
            kept = s.twin();
            return s.hour;
        }

        long back() {
            if (kept == null) {
                return -3;
            }
            s = kept.twin();
            return s.hour;
        }

        long count(int what) {
            if (not(what, 0, 7)) {
                return -2;
            }
            return new long[] {party.size(), s.bag, s.hour, s.minutes, rules.size(), tape.length(), s.rule,
                java.util.Arrays.stream(s.treads).sum()}[what];
        }

        long sheet(int sheet, int sort, int n) {
            if (not(sheet, 0, 3) || not(sort, -1, 2) || (sort >= 0 && n > 40)) {
                return -2;
            }
            try {
                sheets[sheet] = switch (sort) {
                    case 0 -> new byte[n];
                    case 1 -> new short[n];
                    case 2 -> new int[n];
                    default -> null;
                };
            } catch (NegativeArraySizeException e) {
                return -14;
            }
            return 1;
        }

        long cell(int sheet, int i, int v) {
            if (not(sheet, 0, 3)) {
                return -2;
            }
            try {
                if (sheets[sheet] instanceof byte[] b) {
                    b[i] = (byte) v;
                } else if (sheets[sheet] instanceof short[] h) {
                    h[i] = (short) v;
                } else {
                    ((int[]) sheets[sheet])[i] = v;
                }
            } catch (NullPointerException e) {
                return -11;
            } catch (ArrayIndexOutOfBoundsException e) {
                return -12;
            }
            return 1;
        }

        long copy(int sheet, int i, int other, int j, int n) {
            if (not(sheet, 0, 3) || not(other, 0, 3)) {
                return -2;
            }
            try {
                System.arraycopy(sheets[sheet], i, sheets[other], j, n);
            } catch (NullPointerException e) {
                return -11;
            } catch (ArrayStoreException e) {
                return -13;
            } catch (IndexOutOfBoundsException e) {
                return -12;
            }
            return n;
        }

        long lookers(int sheet, int sort, int from, int n) {
            if (not(sheet, 0, 3) || not(sort, 0, 2) || not(n, 0, 6)) {
                return -2;
            }
            Class<?>[] classes = {byte[].class, short[].class, int[].class};
            try {
                Object row = classes[sort].cast(sheets[sheet]);
                java.lang.reflect.Array.getLength(row);
                int came = 0;
                for (int k = 0; k < n; k++) {
                    int kind = java.lang.reflect.Array.getInt(row, from + 2 * k);
                    int number = java.lang.reflect.Array.getInt(row, from + 2 * k + 1);
                    came += looker(kind, number) >= 0 ? 1 : 0;
                }
                return came;
            } catch (ClassCastException e) {
                return -13;
            } catch (NullPointerException e) {
                return -11;
            } catch (ArrayIndexOutOfBoundsException e) {
                return -12;
            }
        }

        long taken(int l, int k) {
            if (not(k, 0, 5)) {
                return -2;
            }
            if (not(l, 0, party.size() - 1)) {
                return -11;
            }
            return party.get(l).isUnder(k) ? party.get(l).number : -13;
        }
    }
}
