/** Promises 15 to 28: likely, here, most, under, drowned, seen, crowd, judge, found, drawn, foundBy, image, back, count. */
public final class WhereTest {
    private static final int MIN = Integer.MIN_VALUE;
    private static final int MAX = Integer.MAX_VALUE;
    private static final long NO = -4611686018427387904L;

    public static void main(String[] args) {
        promise15();
        promise16();
        promise17();
        promise18();
        promise19();
        promise20();
        promise20Edges();
        promise20Refused();
        promise21();
        promise22();
        promise22Refused();
        promise23();
        promise24();
        promise25();
        promise26And27();
        promise28();
        Due.end("WhereTest");
    }

    private static void promise15() {
        RingInSand x = new RingInSand();
        Due.is("likely(0, 0), no ODDS", x.likely(0, 0), NO);
        Due.is("likely(0, 1), no ODDS", x.likely(0, 1), NO);
        x.set(0, 4, 30);
        x.set(0, 47, 45);
        x.set(2, 0, 15);
        Due.is("likely(4, 0)", x.likely(4, 0), 1);
        Due.is("likely(4, 1)", x.likely(4, 1), 3);
        Due.is("likely(47, 0)", x.likely(47, 0), 1);
        Due.is("likely(47, 1)", x.likely(47, 1), 2);
        Due.is("likely(5, 0)", x.likely(5, 0), 0);
        Due.is("likely(5, 1)", x.likely(5, 1), 1);
        int[][] refused = {{-1, 0}, {48, 0}, {4, -1}, {4, 2}, {MIN, 0}, {MAX, 0}, {4, MIN}, {4, MAX}};
        for (int[] r : refused) {
            Due.is("likely(" + r[0] + ", " + r[1] + ")", x.likely(r[0], r[1]), NO);
        }
        for (int c = 0; c < 48; c++) {
            x.set(0, c, 999999);
        }
        x.set(2, 0, 999998);
        Due.is("likely(7, 0)", x.likely(7, 0), 999999);
        Due.is("likely(7, 1)", x.likely(7, 1), 48999950);
        x.set(2, 0, 999999);
        Due.is("likely(7, 1)", x.likely(7, 1), 49);
        RingInSand one = new RingInSand();
        one.set(0, 3, 1);
        Due.is("likely(3, 0), 1 of 1", one.likely(3, 0), 1);
        Due.is("likely(3, 1), 1 of 1", one.likely(3, 1), 1);
        Due.is("likely(4, 0), 0 of 1", one.likely(4, 0), 0);
        Due.is("drawn(5), 1 of 1", one.drawn(5), 3);
        Due.is("most(0), 1 of 1", one.most(0), 3);
    }

    private static void promise16() {
        RingInSand x = new RingInSand();
        Due.is("here(0), no ODDS", x.here(0), NO);
        Due.is("here(1), no ODDS", x.here(1), NO);
        x.set(2, 0, 12);
        Due.is("here(0)", x.here(0), 0);
        Due.is("here(1)", x.here(1), 1);
        x.set(0, 0, 5);
        x.set(0, 47, 3);
        Due.is("here(0)", x.here(0), 2);
        Due.is("here(1)", x.here(1), 5);
        x.set(2, 0, 0);
        Due.is("here(0)", x.here(0), 1);
        Due.is("here(1)", x.here(1), 1);
        int[] refused = {-1, 2, MIN, MAX};
        for (int r : refused) {
            Due.is("here(" + r + ")", x.here(r), NO);
        }
    }

    private static void promise17() {
        RingInSand x = new RingInSand();
        x.set(2, 0, 77);
        Due.is("most(0), BAG is no CELL", x.most(0), -1);
        Due.is("most(1)", x.most(1), 77);
        x.set(0, 47, 5);
        Due.is("most(0)", x.most(0), 47);
        x.set(0, 9, 6);
        x.set(0, 30, 6);
        Due.is("most(0), of like ones the first", x.most(0), 9);
        Due.is("most(1)", x.most(1), 94);
        x.set(0, 0, 7);
        Due.is("most(0)", x.most(0), 0);
        int[] refused = {-1, 2, MIN, MAX};
        for (int r : refused) {
            Due.is("most(" + r + ")", x.most(r), -2);
        }
    }

    private static void promise18() {
        RingInSand x = Due.ruled("deep 0;sea x=y or trod=5 or hour=3 and y=1;shine 0;");
        for (int y = 0; y < 6; y++) {
            Due.is("under(" + y + ")", x.under(y), 1 << y);
        }
        x.set(1, 7, 5);
        x.set(1, 8, 5);
        Due.is("under(0)", x.under(0), 129);
        Due.is("under(1)", x.under(1), 3);
        x.set(3, 0, 3);
        Due.is("under(1)", x.under(1), 255);
        int[] refused = {-1, 6, MIN, MAX};
        for (int r : refused) {
            Due.is("under(" + r + ")", x.under(r), -2);
        }
    }

    private static void promise19() {
        RingInSand x = Due.ruled("deep 0;sea y+10<hour and hour<y+14;shine 0;");
        // row y is under water from y + 11 to y + 13
        x.set(0, 0, 10);
        x.set(0, 9, 20);
        x.set(0, 25, 50);
        x.set(0, 40, 75);
        x.set(2, 0, 999);
        Due.is("drowned(0) at 12", x.drowned(0), 30);
        // at 13: 10 + 20; at 14: 20 + 50; at 15: 50; at 16: 50 + 75; at 17: 75
        Due.is("drowned(1) at 12", x.drowned(1), 16);
        x.set(3, 0, 17);
        Due.is("drowned(0) at 17", x.drowned(0), 75);
        Due.is("drowned(1) at 17, of like ones the first", x.drowned(1), 17);
        x.set(3, 0, 19);
        Due.is("drowned(0) at 19", x.drowned(0), 0);
        Due.is("drowned(1) at 19, not the HOURS ahead", x.drowned(1), 19);
        x.set(3, 0, 0);
        Due.is("drowned(1) at 0", x.drowned(1), 16);
        x.set(3, 0, 15);
        Due.is("drowned(1) at 15, the HOUR behind", x.drowned(1), 16);
        RingInSand late = Due.ruled("deep 0;sea hour=23;shine 0;");
        late.set(0, 3, 1);
        Due.is("drowned(1), 23 is with them", late.drowned(1), 23);
        RingInSand never = Due.ruled("deep 0;sea hour=24 or hour=0;shine 0;");
        never.set(0, 3, 1);
        Due.is("drowned(1), there is no HOUR 24, and 0 is not behind 23", never.drowned(1), 12);
        RingInSand sun = Due.ruled("deep 0;sea sun=50 and trod=4;shine 0;");
        sun.set(0, 3, 1);
        sun.set(1, 3, 4);
        Due.is("drowned(1), by the sun of 18", sun.drowned(1), 18);
        int[] refused = {-1, 2, MIN, MAX};
        for (int r : refused) {
            Due.is("drowned(" + r + ")", x.drowned(r), -2);
        }
    }

    private static void promise20() {
        for (int sort = 0; sort < 3; sort++) {
            RingInSand x = new RingInSand();
            Due.laid(x, 2, sort, 18, 18, 19);
            Due.is("seen(2, 101)", x.seen(2, 101), 3);
            int[][] dues = {{18, 252}, {19, 201}, {17, 100}, {20, 50}, {10, 100}, {26, 100}, {11, 50}, {27, 50}, {9, 0},
                {12, 0}, {0, 0}};
            for (int[] d : dues) {
                Due.is("told(" + d[0] + ", 0)", x.told(d[0], 0), d[1]);
            }
            Due.is("most(1)", x.most(1), 3 * 101 + 12 * 50);
        }
    }

    private static void promise20Edges() {
        RingInSand x = new RingInSand();
        Due.laid(x, 0, 1, 0, 7, 40, 47);
        Due.is("seen(0, 10)", x.seen(0, 10), 4);
        Due.is("most(1), each corner has two beside it", x.most(1), 4 * 10 + 8 * 5);
        Due.is("told(8, 0)", x.told(8, 0), 5);
        Due.is("told(6, 0)", x.told(6, 0), 5);
        Due.is("told(1, 0)", x.told(1, 0), 5);
        Due.is("told(46, 0)", x.told(46, 0), 5);
        Due.is("told(39, 0)", x.told(39, 0), 5);
        RingInSand rim = new RingInSand();
        Due.laid(rim, 0, 0, 15, 16);
        rim.seen(0, 2);
        Due.is("told(15, 0), 16 is not beside it", rim.told(15, 0), 2);
        Due.is("told(16, 0)", rim.told(16, 0), 2);
        Due.laid(rim, 0, 0, 30);
        rim.seen(0, 2);
        Due.is("told(31, 0), the last of a row is beside 30", rim.told(31, 0), 1);
        Due.laid(rim, 0, 0, 33);
        rim.seen(0, 2);
        Due.is("told(32, 0), the first of a row is beside 33", rim.told(32, 0), 1);
        RingInSand much = new RingInSand();
        much.set(0, 9, 999990);
        much.set(0, 10, 999998);
        much.set(0, 1, 999997);
        Due.laid(much, 3, 2, 9);
        Due.is("seen(3, 9)", much.seen(3, 9), 1);
        Due.is("told(9, 0)", much.told(9, 0), 999999);
        Due.is("told(10, 0), 999999 at most", much.told(10, 0), 999999);
        Due.is("told(1, 0), 999999 at most", much.told(1, 0), 999999);
        Due.is("told(8, 0)", much.told(8, 0), 4);
        Due.is("seen(3, 0)", much.seen(3, 0), 1);
        Due.is("seen(3, 1), half is 0", much.seen(3, 1), 1);
        Due.is("told(8, 0)", much.told(8, 0), 4);
        Due.is("seen(3, 9999)", much.seen(3, 9999), 1);
        Due.is("told(9, 0)", much.told(9, 0), 999999);
        Due.is("told(8, 0)", much.told(8, 0), 5003);
    }

    private static void promise20Refused() {
        RingInSand x = new RingInSand();
        Due.laid(x, 0, 1, 3, 48, 3);
        Due.laid(x, 1, 0, 3, 255);
        Due.laid(x, 3, 2, 3, -1);
        String ahead = Due.picture(x);
        int[][] bad = {{-1, 0}, {4, 0}, {MIN, 0}, {MAX, 0}, {0, -1}, {0, 10000}, {0, MIN}, {0, MAX}, {2, -1}, {2, 10000},
            {0, 5}, {1, 5}, {3, 5}};
        for (int[] r : bad) {
            Due.is("seen(" + r[0] + ", " + r[1] + ")", x.seen(r[0], r[1]), -2);
        }
        Due.is("seen(2, 5), missing", x.seen(2, 5), -11);
        Due.holds("a refused seen() changes nothing", ahead.equals(Due.picture(x)));
        Due.laid(x, 1, 0, 256 + 3);
        Due.is("seen(1, 5), the lowest 8 bits are a CELL", x.seen(1, 5), 1);
        Due.is("told(3, 0)", x.told(3, 0), 5);
    }

    private static void promise21() {
        RingInSand x = new RingInSand();
        Due.is("crowd(10, 3, 40)", x.crowd(10, 3, 40), 3);
        int[] treads = {0, 40, 40, 40, 0};
        for (int i = 0; i < treads.length; i++) {
            Due.is("told(" + (9 + i) + ", 1)", x.told(9 + i, 1), treads[i]);
        }
        Due.is("crowd(13, 8, 60)", x.crowd(13, 8, 60), 3);
        Due.is("told(16, 1), another row", x.told(16, 1), 0);
        Due.is("crowd(8, 8, 59)", x.crowd(8, 8, 59), 8);
        Due.is("told(10, 1)", x.told(10, 1), 99);
        Due.is("told(13, 1), 99 at most", x.told(13, 1), 99);
        Due.is("told(8, 1)", x.told(8, 1), 59);
        Due.is("crowd(47, 1, 99)", x.crowd(47, 1, 99), 1);
        Due.is("crowd(47, 8, 1)", x.crowd(47, 8, 1), 1);
        Due.is("told(47, 1)", x.told(47, 1), 99);
        String ahead = Due.picture(x);
        int[][] refused = {{-1, 1, 1}, {48, 1, 1}, {MIN, 1, 1}, {MAX, 1, 1}, {0, 0, 1}, {0, 9, 1}, {0, -1, 1},
            {0, MIN, 1}, {0, MAX, 1}, {0, 1, 0}, {0, 1, 100}, {0, 1, -1}, {0, 1, MIN}, {0, 1, MAX}};
        for (int[] r : refused) {
            Due.is("crowd(" + r[0] + ", " + r[1] + ", " + r[2] + ")", x.crowd(r[0], r[1], r[2]), -2);
        }
        Due.holds("a refused crowd() changes nothing", ahead.equals(Due.picture(x)));
    }

    private static void promise22() {
        RingInSand x = new RingInSand();
        x.looker(0, 0);
        x.looker(2, 9);
        x.set(0, 40, 100);
        Due.laid(x, 0, 0, 0, 0, 1, 47);
        Due.is("judge(0)", x.judge(0), -1);
        Due.laid(x, 0, 1, 0, 0, 2, 1, 0, 0);
        Due.is("judge(0), no such LOOKER", x.judge(0), 1);
        Due.laid(x, 0, 2, 0, 0, 0, 0, 0, 48);
        Due.is("judge(0), no such CELL", x.judge(0), 2);
        Due.laid(x, 0, 2, -1, 0);
        Due.is("judge(0)", x.judge(0), 0);
        Due.laid(x, 0, 2, 0, -1);
        Due.is("judge(0)", x.judge(0), 0);
        Due.laid(x, 0, 2, MAX, MIN);
        Due.is("judge(0)", x.judge(0), 0);
        // two SIEVES of 15 minutes: by then it is 18:00
        x.set(3, 0, 17);
        x.set(4, 0, 30);
        Due.laid(x, 0, 0, 1, 40, 1, 41, 1, 39, 1, 40);
        Due.is("judge(0), under water by then", x.judge(0), 3);
        x.set(4, 0, 0);
        Due.is("judge(0)", x.judge(0), -1);
        x.set(3, 0, 18);
        Due.is("judge(0)", x.judge(0), 0);
        Due.is("count(3), in thought alone", x.count(3), 0);
        Due.is("told(40, 0), in thought alone", x.told(40, 0), 100);
        x.sheet(0, 0, 40);
        Due.is("judge(0), 20 rows", x.judge(0), -1);
        RingInSand trodden = Due.ruled("deep 0;sea 3<trod;shine 0;");
        trodden.looker(0, 0);
        Due.laid(trodden, 0, 0, 0, 5, 0, 5, 0, 5);
        Due.is("judge(0), by its treads", trodden.judge(0), 2);
    }

    private static void promise22Refused() {
        RingInSand x = new RingInSand();
        int[] refused = {-1, 4, MIN, MAX};
        for (int r : refused) {
            Due.is("judge(" + r + ")", x.judge(r), -2);
        }
        Due.is("judge(3), missing", x.judge(3), -11);
        x.sheet(3, 2, 1);
        Due.is("judge(3), odd", x.judge(3), -2);
        x.sheet(3, 2, 39);
        Due.is("judge(3), odd", x.judge(3), -2);
        x.sheet(3, 2, 2);
        Due.is("judge(3), there is no LOOKER 0", x.judge(3), 0);
    }

    private static void promise23() {
        RingInSand x = new RingInSand();
        x.looker(0, 0);
        x.set(0, 0, 1000);
        x.set(0, 1, 500);
        x.set(2, 0, 300);
        Due.laid(x, 0, 0, 0, 0, 0, 0, 0, 1, 9, 0, 0, 1);
        // 900, then 48, then 450, of 1800
        Due.is("judge(0)", x.judge(0), 3);
        Due.is("found(0, 0)", x.found(0, 0), 233);
        Due.is("found(0, 1)", x.found(0, 1), 300);
        Due.laid(x, 0, 0, 1, 0);
        Due.is("found(0, 0), no row ahead", x.found(0, 0), 0);
        Due.is("found(0, 1)", x.found(0, 1), 1);
        Due.laid(x, 0, 0, 0, 0);
        Due.is("found(0, 0)", x.found(0, 0), 1);
        Due.is("found(0, 1)", x.found(0, 1), 2);
        int[][] refused = {{-1, 0}, {4, 0}, {MIN, 0}, {MAX, 0}, {1, 0}, {0, -1}, {0, 2}, {0, MIN}, {0, MAX}};
        for (int[] r : refused) {
            Due.is("found(" + r[0] + ", " + r[1] + ")", x.found(r[0], r[1]), NO);
        }
        x.sheet(0, 0, 3);
        Due.is("found(0, 0), odd", x.found(0, 0), NO);
        RingInSand none = new RingInSand();
        none.sheet(0, 0, 2);
        Due.is("found(0, 0), no ODDS", none.found(0, 0), NO);
        Due.is("found(0, 1), no ODDS", none.found(0, 1), NO);
    }

    /** By the words: (SEED * 1103515245 + 12345 >>> 4) modulo ALL ODDS, on 7, 0 .. 5, BAG 8. */
    private static int drawnOf(int seed, int first, int last, int bag) {
        long z = (seed * 1103515245L + 12345L) & 0xffffffffL;
        long rest = (z >> 4) % (first + last + bag);
        return rest < first ? 3 : rest < first + last ? 46 : -1;
    }

    private static void promise24() {
        RingInSand x = new RingInSand();
        Due.is("drawn(1), no ODDS", x.drawn(1), -1);
        x.set(2, 0, 5);
        Due.is("drawn(1), all is BAG", x.drawn(1), -1);
        x.set(0, 3, 7);
        x.set(0, 46, 4);
        int[] seeds = {0, 1, 2, 3, 4, 5, 6, 7, 8, 9, 10, 11, 12, 13, 14, 15, -1, -2, -3, 77, MIN, MIN + 1, MAX, MAX - 1};
        int[] times = new int[3];
        for (int seed : seeds) {
            int want = drawnOf(seed, 7, 4, 5);
            times[want == 3 ? 0 : want == 46 ? 1 : 2]++;
            Due.is("drawn(" + seed + ")", x.drawn(seed), want);
        }
        Due.holds("all of them are drawn", times[0] > 0 && times[1] > 0 && times[2] > 0);
        x.set(2, 0, 0);
        x.set(0, 46, 0);
        Due.is("drawn(9), there is one alone", x.drawn(9), 3);
        // 12345 >>> 4 is 771: it is in the CELL up to which there are more than these
        x.set(0, 3, 771);
        x.set(0, 46, 1000);
        Due.is("drawn(0), 771 are not more than 771", x.drawn(0), 46);
        x.set(0, 3, 772);
        Due.is("drawn(0), 772 are", x.drawn(0), 3);
        RingInSand even = new RingInSand();
        for (int c = 0; c < 48; c++) {
            even.set(0, c, 1);
        }
        even.set(2, 0, 2);
        for (int seed = -20; seed < 60; seed++) {
            long rest = (((seed * 1103515245L + 12345L) & 0xffffffffL) >> 4) % 50;
            Due.is("drawn(" + seed + ")", even.drawn(seed), rest < 48 ? rest : -1);
        }
    }

    private static void promise25() {
        RingInSand x = new RingInSand();
        x.looker(0, 0);
        // EYES find nothing at depth 5, so 46 is not looked at
        x.set(0, 3, 700);
        x.set(0, 46, 400);
        x.set(2, 0, 500);
        int[] seeds = {0, 5, -10, 1000, MAX - 5, MAX, MIN};
        for (int seed : seeds) {
            for (int n = 1; n <= 20; n += 19) {
                int want = 0;
                for (int i = 0; i < n; i++) {
                    want += drawnOf(seed + i, 700, 400, 500) == 3 ? 1 : 0;
                }
                Due.is("foundBy(" + seed + ", " + n + ")", x.foundBy(seed, n), want);
            }
        }
        int[] refused = {0, 21, -1, MIN, MAX};
        for (int r : refused) {
            Due.is("foundBy(1, " + r + ")", x.foundBy(1, r), -2);
        }
        x.set(0, 46, 0);
        x.set(2, 0, 0);
        Due.is("foundBy(7, 20), it is in 3 always", x.foundBy(7, 20), 20);
        Due.is("foundBy(7, 13)", x.foundBy(7, 13), 13);
        Due.is("told(3, 0), in thought alone", x.told(3, 0), 700);
        RingInSand none = new RingInSand();
        none.set(0, 0, 700);
        Due.is("foundBy(7, 20), no LOOKER", none.foundBy(7, 20), 0);
        RingInSand was = new RingInSand();
        was.looker(0, 0);
        was.set(0, 3, 700);
        Due.is("foundBy(7, 20)", was.foundBy(7, 20), 20);
        was.set(1, 3, 50);
        Due.is("foundBy(7, 20), it is looked at no more", was.foundBy(7, 20), 0);
        RingInSand once = Due.ruled("deep trod*99;sea 0;shine 50;");
        once.looker(3, 0);
        once.set(0, 3, 700);
        Due.is("planned(1), it is looked at once", once.planned(1), -1);
        Due.is("foundBy(7, 20)", once.foundBy(7, 20), 20);
    }

    private static void promise26And27() {
        RingInSand x = Due.fed(new RingInSand(), "deep 9;sea 0;shine 0;");
        Due.is("text()", x.text(), 1);
        Due.is("back(), there is none", x.back(), -3);
        x.set(0, 5, 50);
        x.set(1, 5, 5);
        x.set(2, 0, 6);
        x.set(3, 0, 7);
        x.set(4, 0, 8);
        x.looker(1, 1);
        x.force(1);
        Due.is("image()", x.image(), 7);
        x.set(0, 5, 1);
        x.set(0, 47, 1);
        x.set(1, 5, 1);
        x.set(2, 0, 1);
        x.set(3, 0, 1);
        x.set(4, 0, 1);
        x.force(0);
        x.looker(2, 2);
        Due.laid(x, 1, 0, 3);
        x.feed(100);
        Due.is("back()", x.back(), 7);
        Due.is("told(5, 0)", x.told(5, 0), 50);
        Due.is("told(47, 0)", x.told(47, 0), 0);
        Due.is("told(5, 1)", x.told(5, 1), 5);
        Due.is("told(5, 2), by THE RULE", x.told(5, 2), 9);
        int[] counts = {2, 6, 7, 8, 2, 1, 1, 5};
        for (int what = 0; what < counts.length; what++) {
            Due.is("count(" + what + "), what came since stays", x.count(what), counts[what]);
        }
        Due.is("seen(1, 2), SHEETS stay", x.seen(1, 2), 1);
        Due.is("back(), once more", x.back(), 7);
        Due.is("told(3, 0)", x.told(3, 0), 0);
        x.set(3, 0, 20);
        x.set(0, 5, 51);
        Due.is("image(), anew", x.image(), 20);
        x.set(3, 0, 21);
        x.set(0, 5, 52);
        Due.is("back()", x.back(), 20);
        Due.is("told(5, 0)", x.told(5, 0), 51);
    }

    private static void promise28() {
        RingInSand x = new RingInSand();
        x.looker(0, 0);
        x.looker(0, 0);
        x.set(2, 0, 17);
        x.set(3, 0, 5);
        x.set(4, 0, 33);
        Due.fed(x, "deep 9;sea 0;shine 0;");
        x.text();
        Due.fed(x, "deep 9;sea 0;shine 0;");
        x.text();
        x.force(2);
        Due.fed(x, "abc");
        x.set(1, 0, 99);
        x.set(1, 20, 7);
        x.set(1, 47, 1);
        int[] counts = {2, 17, 5, 33, 3, 3, 2, 107};
        for (int what = 0; what < counts.length; what++) {
            Due.is("count(" + what + ")", x.count(what), counts[what]);
        }
        int[] refused = {-1, 8, MIN, MAX};
        for (int r : refused) {
            Due.is("count(" + r + ")", x.count(r), -2);
        }
    }
}
