import java.util.Arrays;
import java.util.HashMap;
import java.util.HashSet;
import java.util.Map;
import java.util.Set;

/**
 * What the tests of boundaries share. Each of these tests begins with of(): a promise's number and the
 * words of the document that it holds. Those words must stand in the document, and all words of its
 * terms and promises must be held by some test.
 */
class Edge {
    static final int MIN = Integer.MIN_VALUE;
    static final int MAX = Integer.MAX_VALUE;
    static final int NONE = -1;
    static final int BAD = -2;
    static final int STATE = -3;
    static final int FULL = -4;
    static final int NOTHING = -11;
    static final int OUTSIDE = -12;
    static final int UNLIKE = -13;
    static final int BELOW_ZERO = -14;
    static final long NO = -4611686018427387904L;
    static final int CELLS = 48;
    static final int MOST_CALLS = 512;
    /** What makes a TEXT of a deep. */
    static final String REST = ";sea 0;shine 0;";

    private static final Document DOC = new Document("../shared/DOC.md");
    private static final Map<RingInSand, Integer> CALLS = new HashMap<>();
    private static final Set<Integer> PROMISES = new HashSet<>();
    private static String name = "no test";
    private static int askedAhead;
    private static int tests;

    /** How an object is made, with calls ahead. */
    interface Made {
        RingInSand anew();
    }

    /** Begins a test. */
    static void of(int promise, String words) {
        close();
        name = "promise " + promise + ", \"" + words + "\"";
        askedAhead = Due.asked();
        tests++;
        PROMISES.add(promise);
        CALLS.clear();
        System.out.println("  " + name);
        Due.holds(name + ": these words stand in the document", DOC.hold(promise, words));
    }

    private static void close() {
        Due.holds(name + ": it asks something", tests == 0 || Due.asked() > askedAhead + 1);
    }

    /** Begins no further test: all that were are counted. */
    static void end(String all) {
        close();
        for (String words : DOC.left()) {
            Due.holds("no test holds the words of " + words, false);
        }
        for (int promise = 1; promise <= DOC.promises(); promise++) {
            Due.holds("promise " + promise + " has a test", PROMISES.contains(promise));
        }
        Due.is("promises of the document", DOC.promises(), 33);
        System.out.println(all + ": " + tests + " tests of " + PROMISES.size() + " promises");
        Due.end(all);
    }

    static RingInSand anew() {
        return new RingInSand();
    }

    /** One call has this answer. */
    static void due(long want, RingInSand x, String method, int... a) {
        Due.is(name + ": " + method + Arrays.toString(a), call(x, method, a), want);
    }

    static void holds(String what, boolean so) {
        Due.holds(name + ": " + what, so);
    }

    /** Feeds all letters of a text; the call that reads it is left to the test. */
    static RingInSand fed(RingInSand x, String letters) {
        for (int i = 0; i < letters.length(); i++) {
            holds("feed()", call(x, "feed", letters.charAt(i)) > 0);
        }
        return x;
    }

    /** A new object whose RULE is this text. */
    static RingInSand ruled(String letters) {
        RingInSand x = fed(anew(), letters);
        due(1, x, "text");
        due(0, x, "force", 1);
        return x;
    }

    /** A SHEET becomes a row of a sort with these numbers. */
    static void laid(RingInSand x, int sheet, int sort, int... numbers) {
        due(1, x, "sheet", sheet, sort, numbers.length);
        for (int i = 0; i < numbers.length; i++) {
            due(1, x, "cell", sheet, i, numbers[i]);
        }
    }

    static int[] a(int... numbers) {
        return numbers;
    }

    /** Each of these calls has this answer, and behind them all the object is as it was. */
    static void changesNothing(Made made, long want, String method, int[]... calls) {
        for (int v = 0; v < VIEWS; v++) {
            RingInSand plain = made.anew();
            RingInSand called = made.anew();
            for (int[] c : calls) {
                due(want, called, method, c);
            }
            same(method + " changes nothing", plain, called, v);
        }
    }

    /** These calls, whatever they answer, leave the object as it was. */
    static void changesNothing(Made made, String method, int[]... calls) {
        for (int v = 0; v < VIEWS; v++) {
            RingInSand plain = made.anew();
            RingInSand called = made.anew();
            for (int[] c : calls) {
                call(called, method, c);
            }
            same(method + " changes nothing", plain, called, v);
        }
    }

    private static void same(String what, RingInSand plain, RingInSand called, int v) {
        String want = view(plain, v);
        String got = view(called, v);
        if (!got.equals(want)) {
            System.out.println("view " + v + " is " + got + ", due is " + want);
        }
        holds(what, got.equals(want));
    }

    /** Two ways lead to the same. */
    static void like(Made one, Made other) {
        for (int v = 0; v < VIEWS; v++) {
            same("both are alike", one.anew(), other.anew(), v);
        }
    }

    static final int VIEWS = 8;

    /** What an object tells of one side of it; the object isn't used any more then. */
    static String view(RingInSand x, int v) {
        switch (v) {
            case 0: return beach(x);
            case 1: return party(x);
            case 2: return texts(x);
            case 3: return image(x);
            default: return row(x, v - 4);
        }
    }

    private static String beach(RingInSand x) {
        StringBuilder all = new StringBuilder();
        for (int c = 0; c < CELLS; c++) {
            for (int what = 0; what < 5; what++) {
                all.append(call(x, "told", c, what)).append(' ');
            }
        }
        return all.append(counts(x)).toString();
    }

    private static String counts(RingInSand x) {
        StringBuilder all = new StringBuilder("counts ");
        for (int what = 0; what < 8; what++) {
            all.append(call(x, "count", what)).append(' ');
        }
        return all.toString();
    }

    private static String party(RingInSand x) {
        StringBuilder all = new StringBuilder();
        int[] some = {3, 20, 47};
        for (int looker = 0; looker < 6; looker++) {
            for (int k = 0; k < 6; k++) {
                all.append(call(x, "taken", looker, k)).append(' ');
            }
            for (int c : some) {
                for (int what = 0; what < 3; what++) {
                    all.append(call(x, "asks", looker, c, what)).append(' ');
                }
            }
        }
        for (int what = 0; what < 3; what++) {
            all.append(call(x, "next", what)).append(' ').append(call(x, "plan", 20, what)).append(' ');
        }
        for (int i = 0; i < 20; i++) {
            all.append(call(x, "planned", i)).append(' ');
        }
        all.append(call(x, "drawn", 7)).append(' ').append(call(x, "foundBy", 7, 20)).append(' ');
        return all.append(call(x, "search")).append(' ').append(counts(x)).toString();
    }

    private static String texts(RingInSand x) {
        StringBuilder all = new StringBuilder(counts(x));
        all.append(call(x, "text")).append(' ').append(call(x, "count", 4)).append(' ');
        all.append(call(x, "count", 5)).append(' ');
        for (int t = 0; t < 6; t++) {
            all.append(call(x, "force", t)).append(' ');
            for (int what = 2; what < 5; what++) {
                all.append(call(x, "told", 0, what)).append(' ').append(call(x, "told", 47, what)).append(' ');
            }
        }
        return all.toString();
    }

    private static String image(RingInSand x) {
        StringBuilder all = new StringBuilder("image ").append(call(x, "back")).append(' ');
        for (int c = 0; c < CELLS; c++) {
            all.append(call(x, "told", c, 0)).append(' ').append(call(x, "told", c, 1)).append(' ');
        }
        return all.append(counts(x)).toString();
    }

    /** The items of a SHEET, by what SEEN makes of each; -2 for those that are no CELL. */
    static String row(RingInSand x, int sheet) {
        for (int c = 0; c < CELLS; c++) {
            call(x, "set", 0, c, 0);
        }
        call(x, "image");
        int other = (sheet + 1) % 4;
        StringBuilder all = new StringBuilder("row");
        for (int sort = 0; sort < 3; sort++) {
            call(x, "sheet", other, sort, 1);
            all.append(" sort ").append(sort);
            if (call(x, "copy", sheet, 0, other, 0, 0) == 0) {
                addItems(all, x, sheet, other);
            }
        }
        return all.toString();
    }

    private static void addItems(StringBuilder all, RingInSand x, int sheet, int other) {
        for (int i = 0; i < 41 && call(x, "copy", sheet, i, other, 0, 1) == 1; i++) {
            long seen = call(x, "seen", other, 2);
            all.append(' ').append(seen == 1 ? call(x, "most", 0) : seen);
            call(x, "back");
        }
    }

    /** A row of a sort, as row() tells it. */
    static String rowOf(int sort, int... items) {
        StringBuilder all = new StringBuilder("row");
        for (int s = 0; s < 3; s++) {
            all.append(" sort ").append(s);
            if (s == sort) {
                for (int item : items) {
                    all.append(' ').append(item);
                }
            }
        }
        return all.toString();
    }

    /** Something of all that an object keeps; at 18 row 5 is under water by its RULE. */
    static RingInSand busy() {
        return fed(quiet(), "deep y;se");
    }

    /** The same with an empty TAPE. */
    static RingInSand quiet() {
        RingInSand x = ruled("deep trod+x;sea y=5 and 17<hour;shine sun;");
        due(0, x, "looker", 0, 0);
        due(1, x, "looker", 2, 7);
        due(2, x, "looker", 5, 9);
        int[] cells = {0, 3, 20, 41, 47};
        for (int c : cells) {
            due(0, x, "set", 0, c, 1000 + c);
            due(0, x, "set", 1, c, c % 7);
        }
        due(0, x, "set", 2, 0, 77);
        due(12, x, "image");
        due(1003, x, "set", 0, 3, 500);
        due(6, x, "set", 1, 20, 98);
        due(77, x, "set", 2, 0, 78);
        due(12, x, "set", 3, 0, 18);
        due(0, x, "set", 4, 0, 58);
        laid(x, 0, 0, 0, 3, 1, 20);
        laid(x, 1, 1, 9, 10, 48);
        laid(x, 2, 2, 0, 47, 2, 40);
        return x;
    }

    static int calls(RingInSand x) {
        return CALLS.getOrDefault(x, 0);
    }

    static long call(RingInSand x, String method, int... a) {
        int calls = CALLS.merge(x, 1, Integer::sum);
        if (calls > MOST_CALLS) {
            holds("the test itself makes 512 calls at most", false);
        }
        switch (method) {
            case "set": return x.set(a[0], a[1], a[2]);
            case "told": return x.told(a[0], a[1]);
            case "looker": return x.looker(a[0], a[1]);
            case "asks": return x.asks(a[0], a[1], a[2]);
            case "feed": return x.feed(a[0]);
            case "text": return x.text();
            case "force": return x.force(a[0]);
            case "look": return x.look(a[0], a[1]);
            case "next": return x.next(a[0]);
            case "plan": return x.plan(a[0], a[1]);
            case "planned": return x.planned(a[0]);
            case "search": return x.search();
            case "giveUp": return x.giveUp(a[0]);
            case "likely": return x.likely(a[0], a[1]);
            case "here": return x.here(a[0]);
            case "most": return x.most(a[0]);
            default: return laterCall(x, method, a);
        }
    }

    private static long laterCall(RingInSand x, String method, int... a) {
        switch (method) {
            case "under": return x.under(a[0]);
            case "drowned": return x.drowned(a[0]);
            case "seen": return x.seen(a[0], a[1]);
            case "crowd": return x.crowd(a[0], a[1], a[2]);
            case "judge": return x.judge(a[0]);
            case "found": return x.found(a[0], a[1]);
            case "drawn": return x.drawn(a[0]);
            case "foundBy": return x.foundBy(a[0], a[1]);
            case "image": return x.image();
            case "back": return x.back();
            case "count": return x.count(a[0]);
            case "sheet": return x.sheet(a[0], a[1], a[2]);
            case "cell": return x.cell(a[0], a[1], a[2]);
            case "copy": return x.copy(a[0], a[1], a[2], a[3], a[4]);
            case "lookers": return x.lookers(a[0], a[1], a[2], a[3]);
            case "taken": return x.taken(a[0], a[1]);
            default: throw new IllegalArgumentException(method);
        }
    }
}
