/** Promises 1 to 5: a new object, set, told, looker, asks. */
public final class BeachTest {
    private static final int MIN = Integer.MIN_VALUE;
    private static final int MAX = Integer.MAX_VALUE;

    public static void main(String[] args) {
        promise1();
        promise2();
        promise2Refused();
        promise3();
        promise3Bounds();
        promise3Now();
        promise4();
        promise5Finds();
        promise5Others();
        promise5Refused();
        Due.end("BeachTest");
    }

    private static void promise1() {
        RingInSand x = new RingInSand();
        for (int c = 0; c < 48; c++) {
            Due.is("told(" + c + ", 0)", x.told(c, 0), 0);
            Due.is("told(" + c + ", 1)", x.told(c, 1), 0);
        }
        int[] counts = {0, 0, 12, 0, 1, 0, 0, 0};
        for (int what = 0; what < counts.length; what++) {
            Due.is("count(" + what + ")", x.count(what), counts[what]);
        }
        Due.is("most(0)", x.most(0), -1);
        Due.is("most(1)", x.most(1), 0);
        Due.is("asks(0, 0, 0)", x.asks(0, 0, 0), -2);
        Due.is("taken(0, 0)", x.taken(0, 0), -11);
        Due.is("force(1)", x.force(1), -2);
        Due.is("back()", x.back(), -3);
        for (int s = 0; s < 4; s++) {
            Due.is("cell(" + s + ", 0, 0)", x.cell(s, 0, 0), -11);
        }
    }

    private static void promise2() {
        RingInSand x = new RingInSand();
        Due.is("set(0, 47, 999999)", x.set(0, 47, 999999), 0);
        Due.is("set(0, 47, 3)", x.set(0, 47, 3), 999999);
        Due.is("set(0, 0, 1)", x.set(0, 0, 1), 0);
        Due.is("told(47, 0)", x.told(47, 0), 3);
        Due.is("told(46, 0)", x.told(46, 0), 0);
        Due.is("set(1, 47, 99)", x.set(1, 47, 99), 0);
        Due.is("set(1, 47, 0)", x.set(1, 47, 0), 99);
        Due.is("set(1, 0, 7)", x.set(1, 0, 7), 0);
        Due.is("told(0, 1)", x.told(0, 1), 7);
        Due.is("set(2, -1, 999999)", x.set(2, -1, 999999), 0);
        Due.is("set(2, MAX, 0)", x.set(2, MAX, 0), 999999);
        Due.is("set(3, MIN, 23)", x.set(3, MIN, 23), 12);
        Due.is("set(3, 48, 0)", x.set(3, 48, 0), 23);
        Due.is("count(2)", x.count(2), 0);
        Due.is("set(4, -5, 59)", x.set(4, -5, 59), 0);
        Due.is("set(4, 99, 1)", x.set(4, 99, 1), 59);
        Due.is("count(3)", x.count(3), 1);
    }

    private static void promise2Refused() {
        RingInSand x = new RingInSand();
        x.set(0, 5, 5);
        x.set(1, 5, 6);
        x.set(2, 0, 7);
        x.set(4, 0, 8);
        String ahead = Due.picture(x);
        int[][] refused = {
            {-1, 0, 0}, {5, 0, 0}, {MIN, 0, 0}, {MAX, 0, 0},
            {0, -1, 0}, {0, 48, 0}, {0, MIN, 0}, {0, MAX, 0}, {0, 5, -1}, {0, 5, 1000000}, {0, 5, MIN}, {0, 5, MAX},
            {1, -1, 0}, {1, 48, 0}, {1, 5, -1}, {1, 5, 100}, {1, 5, MIN}, {1, 5, MAX},
            {2, 0, -1}, {2, 0, 1000000}, {3, 0, -1}, {3, 0, 24}, {4, 0, -1}, {4, 0, 60}, {4, 0, MIN}, {4, 0, MAX},
        };
        for (int[] r : refused) {
            Due.is("set(" + r[0] + ", " + r[1] + ", " + r[2] + ")", x.set(r[0], r[1], r[2]), -2);
        }
        Due.holds("a refused set() changes nothing", ahead.equals(Due.picture(x)));
    }

    private static void promise3() {
        RingInSand x = new RingInSand();
        Due.is("told(0, 2)", x.told(0, 2), 0);
        Due.is("told(0, 4)", x.told(0, 4), 90);
        Due.is("told(19, 2)", x.told(19, 2), 2);
        Due.is("told(19, 3)", x.told(19, 3), 0);
        Due.is("told(19, 4)", x.told(19, 4), 88);
        x.set(1, 19, 5);
        Due.is("told(19, 2)", x.told(19, 2), 7);
        Due.is("told(19, 4)", x.told(19, 4), 83);
        Due.is("told(18, 2)", x.told(18, 2), 2);
        x.set(3, 0, 18);
        Due.is("told(39, 3) at 18", x.told(39, 3), 0);
        Due.is("told(40, 3) at 18", x.told(40, 3), 1);
        Due.is("told(47, 3) at 18", x.told(47, 3), 1);
        Due.is("told(0, 4) at 18", x.told(0, 4), 50);
        x.set(3, 0, 17);
        Due.is("told(40, 3) at 17", x.told(40, 3), 0);
        int[] suns = {0, 0, 0, 0, 10, 20, 30, 40, 50, 60, 70, 80, 90, 100, 90, 80, 70, 60, 50, 40, 30, 20, 10, 0};
        for (int hour = 0; hour < 24; hour++) {
            x.set(3, 0, hour);
            Due.is("told(0, 4) at " + hour, x.told(0, 4), suns[hour]);
        }
        int[][] refused = {{-1, 0}, {48, 0}, {0, -1}, {0, 5}, {MIN, 0}, {MAX, 0}, {0, MIN}, {0, MAX}};
        for (int[] r : refused) {
            Due.is("told(" + r[0] + ", " + r[1] + ")", x.told(r[0], r[1]), -2);
        }
    }

    private static void promise3Bounds() {
        RingInSand x = new RingInSand();
        x.set(1, 40, 99);
        Due.is("told(40, 2), 104 by the text", x.told(40, 2), 99);
        Due.is("told(40, 4), -9 by the text", x.told(40, 4), 0);
        RingInSand low = Due.ruled("deep 0-x;sea x-3;shine 101*x+depth;");
        Due.is("told(1, 2), -1 by the text", low.told(1, 2), 0);
        Due.is("told(0, 3), -3 by the text", low.told(0, 3), 1);
        Due.is("told(3, 3), 0 by the text", low.told(3, 3), 0);
        Due.is("told(7, 3), 4 by the text", low.told(7, 3), 1);
        Due.is("told(1, 4), 101 by the text", low.told(1, 4), 100);
        Due.is("told(0, 4)", low.told(0, 4), 0);
        RingInSand deep = Due.ruled("deep 100+x;sea depth;shine depth-90-x;");
        Due.is("told(2, 2), 102 by the text", deep.told(2, 2), 99);
        Due.is("told(2, 3), depth is 0 of sea", deep.told(2, 3), 0);
        Due.is("told(2, 4), depth is what deep tells, so 99", deep.told(2, 4), 7);
        RingInSand flat = Due.ruled("deep depth+4;sea 0;shine 100;");
        Due.is("told(2, 2), depth is 0 of deep", flat.told(2, 2), 4);
        Due.is("told(2, 2) again", flat.told(2, 2), 4);
        Due.is("told(3, 2), depth is 0 of deep", flat.told(3, 2), 4);
        RingInSand trod = Due.ruled("deep depth+4;sea depth;shine trod*10+depth;");
        trod.set(1, 5, 3);
        Due.is("told(5, 2), depth is not trod", trod.told(5, 2), 4);
        Due.is("told(5, 3)", trod.told(5, 3), 0);
        Due.is("told(5, 4)", trod.told(5, 4), 34);
    }

    /** What was told for one HOUR, TREADS, RULE is not what is told for another. */
    private static void promise3Now() {
        RingInSand x = new RingInSand();
        x.set(3, 0, 1);
        Due.is("told(9, 2) at 1", x.told(9, 2), 1);
        RingInSand y = Due.ruled("deep trod;sea trod=98;shine hour;");
        for (int hour = 0; hour < 24; hour++) {
            for (int treads = 0; treads < 3; treads++) {
                y.set(3, 0, hour);
                y.set(1, 0, treads);
                Due.is("told(0, 2)", y.told(0, 2), treads);
                Due.is("told(0, 4)", y.told(0, 4), hour);
            }
        }
        for (int hour = 20; hour < 24; hour++) {
            y.set(3, 0, hour);
            y.set(1, 0, 23 - hour);
            Due.is("told(0, 2)", y.told(0, 2), 23 - hour);
            Due.is("told(0, 4)", y.told(0, 4), hour);
        }
        for (int treads = 94; treads < 100; treads++) {
            y.force(0);
            y.set(1, 0, treads);
            Due.is("told(0, 2) by text 0", y.told(0, 2), treads);
            Due.is("told(0, 3) by text 0", y.told(0, 3), 0);
            Due.is("told(0, 4) by text 0", y.told(0, 4), 0);
            y.force(1);
            y.set(1, 0, treads - 1);
            Due.is("told(0, 2) by text 1", y.told(0, 2), treads - 1);
            y.set(1, 0, treads);
            Due.is("told(0, 3) by text 1", y.told(0, 3), treads == 98 ? 1 : 0);
            y.set(1, 0, 99 - treads);
            Due.is("told(0, 2) by text 1", y.told(0, 2), 99 - treads);
            Due.is("told(0, 4) by text 1", y.told(0, 4), 23);
        }
    }

    private static void promise4() {
        RingInSand x = new RingInSand();
        int[][] refused = {{-1, 0}, {6, 0}, {0, -1}, {0, 10}, {MIN, 0}, {MAX, 0}, {5, MIN}, {5, MAX}};
        for (int[] r : refused) {
            Due.is("looker(" + r[0] + ", " + r[1] + ")", x.looker(r[0], r[1]), -2);
        }
        Due.is("count(0)", x.count(0), 0);
        for (int kind = 5; kind >= 0; kind--) {
            Due.is("looker(" + kind + ", 9)", x.looker(kind, 9), 5 - kind);
        }
        Due.is("count(0)", x.count(0), 6);
        String ahead = Due.picture(x);
        Due.is("looker(0, 0), too many", x.looker(0, 0), -4);
        Due.is("looker(6, 0), BAD goes ahead of FULL", x.looker(6, 0), -2);
        Due.is("looker(0, 10), BAD goes ahead of FULL", x.looker(0, 10), -2);
        Due.holds("a refused looker() changes nothing", ahead.equals(Due.picture(x)));
    }

    /** One of each KIND, with NUMBERS 0, 5, 3, 7, 9, 4. */
    private static RingInSand party() {
        RingInSand x = new RingInSand();
        int[] numbers = {0, 5, 3, 7, 9, 4};
        for (int kind = 0; kind < 6; kind++) {
            x.looker(kind, numbers[kind]);
        }
        return x;
    }

    private static void promise5Finds() {
        RingInSand x = party();
        int[][] dueByDepth = {
            // depth, EYES, HANDS, SIEVE, PLATE, SPADE, LAD
            {0, 90, 65, 93, 70, 34, 58},
            {1, 69, 59, 87, 68, 36, 56},
            {2, 48, 53, 81, 66, 38, 54},
            {4, 6, 41, 69, 62, 42, 50},
            {5, 0, 35, 63, 60, 44, 48},
            {10, 0, 5, 33, 50, 54, 38},
            // HANDS are not bounded ahead of what SIEVE and SPADE make of them
            {11, 0, 0, 27, 48, 56, 36},
            {16, 0, 0, 0, 38, 67, 26},
            // half of -51 is -25, cut toward 0
            {20, 0, 0, 0, 30, 75, 18},
            {31, 0, 0, 0, 8, 97, 0},
            {35, 0, 0, 0, 0, 100, 0},
            {99, 0, 0, 0, 0, 100, 0},
        };
        for (int[] row : dueByDepth) {
            x.set(1, 3, row[0]);
            for (int looker = 0; looker < 6; looker++) {
                Due.is("asks(" + looker + ", 3, 0) at depth " + row[0], x.asks(looker, 3, 0), row[looker + 1]);
            }
        }
        RingInSand most = new RingInSand();
        most.looker(2, 9);
        most.looker(1, 0);
        most.looker(5, 9);
        most.looker(5, 0);
        Due.is("SIEVE of 9 at depth 0", most.asks(0, 0, 0), 99);
        Due.is("HANDS of 0 at depth 0", most.asks(1, 0, 0), 60);
        Due.is("LAD of 9 at depth 0", most.asks(2, 0, 0), 43);
        Due.is("LAD of 0 at depth 0", most.asks(3, 0, 0), 70);
    }

    private static void promise5Others() {
        RingInSand x = party();
        int[] takes = {2, 6, 9, 3, 12, 7};
        int[] stamps = {2, 1, 0, 2, 1, 6};
        int[] gains = {109, 79, 113, 85, 41, 70};
        int[] rates = {54, 13, 12, 28, 3, 10};
        x.set(0, 2, 122);
        for (int looker = 0; looker < 6; looker++) {
            Due.is("asks(" + looker + ", 2, 1)", x.asks(looker, 2, 1), takes[looker]);
            Due.is("asks(" + looker + ", 2, 2)", x.asks(looker, 2, 2), stamps[looker]);
            Due.is("asks(" + looker + ", 2, 3)", x.asks(looker, 2, 3), gains[looker]);
            Due.is("asks(" + looker + ", 2, 4)", x.asks(looker, 2, 4), rates[looker]);
        }
        x.set(0, 2, 999999);
        Due.is("asks(0, 2, 3)", x.asks(0, 2, 3), 899999);
        x.set(0, 40, 1000);
        x.set(3, 0, 18);
        for (int looker = 0; looker < 6; looker++) {
            Due.is("GOOD under water", x.asks(looker, 40, 0), 0);
            Due.is("TAKES under water", x.asks(looker, 40, 1), takes[looker]);
            Due.is("STAMPS under water", x.asks(looker, 40, 2), stamps[looker]);
            Due.is("GAIN under water", x.asks(looker, 40, 3), 0);
            Due.is("PER MINUTE under water", x.asks(looker, 40, 4), 0);
        }
    }

    private static void promise5Refused() {
        RingInSand x = new RingInSand();
        x.looker(0, 0);
        int[][] refused = {
            {-1, 0, 0}, {1, 0, 0}, {6, 0, 0}, {MIN, 0, 0}, {MAX, 0, 0},
            {0, -1, 0}, {0, 48, 0}, {0, MIN, 0}, {0, MAX, 0},
            {0, 0, -1}, {0, 0, 5}, {0, 0, MIN}, {0, 0, MAX},
        };
        for (int[] r : refused) {
            Due.is("asks(" + r[0] + ", " + r[1] + ", " + r[2] + ")", x.asks(r[0], r[1], r[2]), -2);
        }
    }
}
