/** Promises 29 to 33: sheet, cell, copy, lookers, taken. */
public final class HostTest {
    private static final int MIN = Integer.MIN_VALUE;
    private static final int MAX = Integer.MAX_VALUE;

    public static void main(String[] args) {
        promise29();
        promise30();
        promise31();
        promise31Refused();
        promise32();
        promise32Outside();
        promise32Refused();
        promise33();
        constants();
        Due.end("HostTest");
    }

    private static void promise29() {
        RingInSand x = new RingInSand();
        int[][] bad = {{-1, 0, 1}, {4, 0, 1}, {MIN, 0, 1}, {MAX, 0, 1}, {0, -2, 1}, {0, 3, 1}, {0, MIN, 1}, {0, MAX, 1},
            {0, 0, 41}, {0, 2, MAX}, {4, 0, -1}, {0, 3, -1}, {4, -1, 0}};
        for (int[] r : bad) {
            Due.is("sheet(" + r[0] + ", " + r[1] + ", " + r[2] + ")", x.sheet(r[0], r[1], r[2]), -2);
        }
        Due.is("sheet(0, 0, -1)", x.sheet(0, 0, -1), -14);
        Due.is("sheet(3, 2, MIN)", x.sheet(3, 2, MIN), -14);
        Due.is("cell(0, 0, 0), still missing", x.cell(0, 0, 0), -11);
        Due.is("sheet(3, 2, 40)", x.sheet(3, 2, 40), 1);
        Due.is("cell(3, 39, 7)", x.cell(3, 39, 7), 1);
        Due.is("cell(3, 40, 7)", x.cell(3, 40, 7), -12);
        Due.is("sheet(3, 2, -1) leaves it", x.sheet(3, 2, -1), -14);
        Due.is("sheet(3, 2, 41) leaves it", x.sheet(3, 2, 41), -2);
        Due.is("cell(3, 39, 7)", x.cell(3, 39, 7), 1);
        Due.is("sheet(3, 2, 0)", x.sheet(3, 2, 0), 1);
        Due.is("cell(3, 0, 7)", x.cell(3, 0, 7), -12);
        Due.is("judge(3)", x.judge(3), -1);
        Due.laid(x, 1, 0, 5, 6);
        Due.is("sheet(1, 1, 3), all are 0", x.sheet(1, 1, 3), 1);
        Due.is("seen(1, 2)", x.seen(1, 2), 3);
        Due.is("told(0, 0)", x.told(0, 0), 6);
        Due.is("told(5, 0)", x.told(5, 0), 0);
        Due.is("sheet(1, -1, MAX), missing", x.sheet(1, -1, MAX), 1);
        Due.is("seen(1, 2)", x.seen(1, 2), -11);
        Due.is("sheet(1, -1, MIN), missing again", x.sheet(1, -1, MIN), 1);
        Due.is("sheet(2, -1, 0)", x.sheet(2, -1, 0), 1);
    }

    private static void promise30() {
        RingInSand x = new RingInSand();
        int[] bad = {-1, 4, MIN, MAX};
        for (int r : bad) {
            Due.is("cell(" + r + ", 0, 0)", x.cell(r, 0, 0), -2);
        }
        Due.is("cell(0, -1, 0), missing", x.cell(0, -1, 0), -11);
        x.sheet(0, 0, 3);
        Due.laid(x, 0, 0, 7, 8, 9);
        int[] outside = {-1, 3, 40, MIN, MAX};
        for (int i : outside) {
            Due.is("cell(0, " + i + ", 0)", x.cell(0, i, 0), -12);
        }
        shows(x, 0, 7, 8, 9);
        Due.is("sheet(0, 0, -1)", x.sheet(0, 0, -1), -14);
        Due.is("sheet(0, 0, 41)", x.sheet(0, 0, 41), -2);
        Due.is("sheet(0, 3, 1)", x.sheet(0, 3, 1), -2);
        shows(x, 0, 7, 8, 9);
        Due.is("cell(0, 1, 6)", x.cell(0, 1, 6), 1);
        shows(x, 0, 7, 6, 9);
        // of bytes, shorts the lowest 8, 16 bits
        x.sheet(0, 0, 1);
        x.sheet(1, 1, 1);
        x.sheet(2, 2, 1);
        int[][] dues = {
            // v, as a byte, a short, an int a CELL, or -1
            {5, 5, 5, 5}, {256 + 5, 5, -1, -1}, {65536 + 5, 5, 5, -1}, {-65536 + 5, 5, 5, -1}, {-256 + 5, 5, -1, -1},
            {128, -1, -1, -1}, {255, -1, -1, -1}, {-1, -1, -1, -1}, {65535, -1, -1, -1}, {MIN, 0, 0, -1}, {MAX, -1, -1, -1},
        };
        for (int[] d : dues) {
            for (int sort = 0; sort < 3; sort++) {
                Due.is("cell(" + sort + ", 0, " + d[0] + ")", x.cell(sort, 0, d[0]), 1);
                Due.is("seen(" + sort + ", 0) of " + d[0], x.seen(sort, 0), d[sort + 1] < 0 ? -2 : 1);
            }
        }
    }

    /** Which CELLS a SHEET tells, by what SEEN makes of them. */
    private static void shows(RingInSand x, int sheet, int... cells) {
        x.image();
        for (int c = 0; c < 48; c++) {
            x.set(0, c, 0);
        }
        Due.is("seen(" + sheet + ", 1)", x.seen(sheet, 1), cells.length);
        int[] times = new int[48];
        for (int c : cells) {
            times[c]++;
        }
        for (int c = 0; c < 48; c++) {
            if (times[c] > 0) {
                Due.is("sheet " + sheet + " has " + c, x.told(c, 0), times[c]);
            }
        }
        x.back();
    }

    private static void promise31() {
        RingInSand x = new RingInSand();
        Due.laid(x, 0, 1, 1, 2, 3, 4, 5, 6);
        Due.laid(x, 1, 1, 10, 11, 12, 13);
        Due.is("copy(0, 1, 1, 2, 2)", x.copy(0, 1, 1, 2, 2), 2);
        shows(x, 1, 10, 11, 2, 3);
        shows(x, 0, 1, 2, 3, 4, 5, 6);
        Due.is("copy(0, 0, 0, 1, 5), as they were", x.copy(0, 0, 0, 1, 5), 5);
        shows(x, 0, 1, 1, 2, 3, 4, 5);
        Due.is("copy(0, 2, 0, 0, 4), as they were", x.copy(0, 2, 0, 0, 4), 4);
        shows(x, 0, 2, 3, 4, 5, 4, 5);
        Due.is("copy(0, 6, 1, 4, 0)", x.copy(0, 6, 1, 4, 0), 0);
        Due.is("copy(0, 0, 1, 0, 0)", x.copy(0, 0, 1, 0, 0), 0);
        // the order of LOOKER and CELL is copied too
        Due.laid(x, 2, 0, 0, 9);
        Due.laid(x, 3, 0, 9, 0);
        x.looker(0, 0);
        Due.is("judge(3)", x.judge(3), 0);
        Due.is("copy(2, 0, 3, 0, 2)", x.copy(2, 0, 3, 0, 2), 2);
        Due.is("judge(3)", x.judge(3), -1);
    }

    private static void promise31Refused() {
        RingInSand x = new RingInSand();
        Due.laid(x, 0, 1, 1, 2, 3);
        Due.laid(x, 1, 1, 4, 5, 6);
        Due.laid(x, 2, 2, 7, 8, 9);
        int[] bad = {-1, 4, MIN, MAX};
        for (int r : bad) {
            Due.is("copy(" + r + ", 0, 0, 0, 1)", x.copy(r, 0, 0, 0, 1), -2);
            Due.is("copy(0, 0, " + r + ", 0, 1)", x.copy(0, 0, r, 0, 1), -2);
            Due.is("copy(3, 0, " + r + ", 0, 1), BAD goes ahead of -11", x.copy(3, 0, r, 0, 1), -2);
        }
        Due.is("copy(0, 0, 3, 0, 1)", x.copy(0, 0, 3, 0, 1), -11);
        Due.is("copy(3, 0, 0, 0, 1)", x.copy(3, 0, 0, 0, 1), -11);
        Due.is("copy(3, 0, 3, -1, -1)", x.copy(3, 0, 3, -1, -1), -11);
        Due.is("copy(0, 0, 2, 0, 1)", x.copy(0, 0, 2, 0, 1), -13);
        Due.is("copy(2, -1, 0, 9, -1), -13 goes ahead of -12", x.copy(2, -1, 0, 9, -1), -13);
        int[][] outside = {{-1, 0, 1}, {0, -1, 1}, {0, 0, -1}, {0, 0, 4}, {1, 0, 3}, {0, 1, 3}, {4, 0, 0}, {0, 4, 0},
            {3, 0, 1}, {0, 3, 1}, {MIN, 0, 1}, {0, MIN, 1}, {0, 0, MIN}, {MAX, 0, 1}, {0, MAX, 1}, {0, 0, MAX},
            {1, 0, MAX}, {0, 1, MAX}, {MAX, MAX, MAX}, {2, 2, MIN}, {-1, 0, 0}, {0, -1, 0}};
        for (int[] r : outside) {
            Due.is("copy(0, " + r[0] + ", 1, " + r[1] + ", " + r[2] + ")", x.copy(0, r[0], 1, r[1], r[2]), -12);
        }
        shows(x, 0, 1, 2, 3);
        shows(x, 1, 4, 5, 6);
        shows(x, 2, 7, 8, 9);
    }

    private static void promise32() {
        for (int sort = 0; sort < 3; sort++) {
            RingInSand x = new RingInSand();
            Due.laid(x, 2, sort, 0, 5, 6, 1, 5, 10, -1, 0, 0, -1, 5, 9);
            Due.is("lookers(2, .., 0, 6)", x.lookers(2, sort, 0, 6), 2);
            Due.is("taken(0, 0)", x.taken(0, 0), 5);
            Due.is("taken(1, 5)", x.taken(1, 5), 9);
            // two by two from item 3 on: (1, 5), (10, -1)
            Due.is("lookers(2, .., 3, 2)", x.lookers(2, sort, 3, 2), 1);
            Due.is("taken(2, 1)", x.taken(2, 1), 5);
            Due.is("lookers(2, .., 0, 0)", x.lookers(2, sort, 0, 0), 0);
            Due.is("lookers(2, .., 99, 0), nothing is asked", x.lookers(2, sort, 99, 0), 0);
            Due.is("lookers(2, .., -1, 0)", x.lookers(2, sort, -1, 0), 0);
            Due.is("count(0)", x.count(0), 3);
        }
        RingInSand full = new RingInSand();
        Due.laid(full, 0, 0, 0, 1, 1, 2, 2, 3, 3, 4, 4, 5, 5, 6);
        full.looker(0, 9);
        full.looker(0, 9);
        Due.is("lookers(0, 0, 0, 6), two have no room", full.lookers(0, 0, 0, 6), 4);
        Due.is("count(0)", full.count(0), 6);
        Due.is("taken(5, 3)", full.taken(5, 3), 4);
        Due.is("lookers(0, 0, 0, 6), none has", full.lookers(0, 0, 0, 6), 0);
        Due.is("lookers(0, 0, 2, 6), -12 all the same", full.lookers(0, 0, 2, 6), -12);
    }

    private static void promise32Outside() {
        RingInSand x = new RingInSand();
        Due.laid(x, 0, 1, 1, 1, 2, 2, 3);
        Due.is("lookers(0, 1, 0, 3), the last has no NUMBER", x.lookers(0, 1, 0, 3), -12);
        Due.is("count(0), what stood ahead came", x.count(0), 2);
        Due.is("taken(1, 2)", x.taken(1, 2), 2);
        Due.is("lookers(0, 1, 3, 2)", x.lookers(0, 1, 3, 2), -12);
        Due.is("count(0)", x.count(0), 3);
        Due.is("taken(2, 2)", x.taken(2, 2), 3);
        int[] from = {-1, -2, 4, 5, 6, MIN, MAX, MAX - 1};
        for (int f : from) {
            Due.is("lookers(0, 1, " + f + ", 1)", x.lookers(0, 1, f, 1), -12);
            Due.is("lookers(0, 1, " + f + ", 6)", x.lookers(0, 1, f, 6), -12);
        }
        Due.is("count(0)", x.count(0), 3);
        x.sheet(1, 0, 0);
        Due.is("lookers(1, 0, 0, 1)", x.lookers(1, 0, 0, 1), -12);
        Due.is("lookers(1, 0, 0, 0)", x.lookers(1, 0, 0, 0), 0);
    }

    private static void promise32Refused() {
        RingInSand x = new RingInSand();
        Due.laid(x, 0, 1, 1, 1);
        int[][] bad = {{-1, 1, 0, 1}, {4, 1, 0, 1}, {MIN, 1, 0, 1}, {MAX, 1, 0, 1}, {0, -1, 0, 1}, {0, 3, 0, 1},
            {0, MIN, 0, 1}, {0, MAX, 0, 1}, {0, 1, 0, -1}, {0, 1, 0, 7}, {0, 1, 0, MIN}, {0, 1, 0, MAX},
            {0, 0, 0, 7}, {1, -1, 0, 1}, {1, 0, 0, 7}};
        for (int[] r : bad) {
            Due.is("lookers(" + r[0] + ", " + r[1] + ", " + r[2] + ", " + r[3] + ")", x.lookers(r[0], r[1], r[2], r[3]), -2);
        }
        Due.is("lookers(0, 0, 0, 1)", x.lookers(0, 0, 0, 1), -13);
        Due.is("lookers(0, 2, 9, 0)", x.lookers(0, 2, 9, 0), -13);
        for (int sort = 0; sort < 3; sort++) {
            Due.is("lookers(1, .., 0, 0), missing", x.lookers(1, sort, 0, 0), -11);
            Due.is("lookers(1, .., 9, 1), missing", x.lookers(1, sort, 9, 1), -11);
        }
        Due.is("count(0)", x.count(0), 0);
    }

    private static void promise33() {
        RingInSand x = new RingInSand();
        for (int kind = 0; kind < 6; kind++) {
            x.looker(kind, kind + 1);
        }
        boolean[][] under = {
            // taken for: EYES, HANDS, SIEVE, PLATE, SPADE, LAD
            {true, false, false, false, false, false},
            {true, true, false, false, false, false},
            {true, true, true, false, false, false},
            {true, false, false, true, false, false},
            {true, true, false, false, true, false},
            {true, false, false, true, false, true},
        };
        for (int kind = 0; kind < 6; kind++) {
            for (int k = 0; k < 6; k++) {
                Due.is("taken(" + kind + ", " + k + ")", x.taken(kind, k), under[kind][k] ? kind + 1 : -13);
            }
        }
        int[] bad = {-1, 6, MIN, MAX};
        for (int r : bad) {
            Due.is("taken(0, " + r + ")", x.taken(0, r), -2);
            Due.is("taken(9, " + r + "), BAD goes ahead of -11", x.taken(9, r), -2);
        }
        int[] none = {-1, 6, MIN, MAX};
        for (int r : none) {
            Due.is("taken(" + r + ", 0)", x.taken(r, 0), -11);
        }
        Due.is("taken(0, 0) of no LOOKER", new RingInSand().taken(0, 0), -11);
    }

    private static void constants() {
        Due.is("NONE", RingInSand.NONE, -1);
        Due.is("BAD", RingInSand.BAD, -2);
        Due.is("STATE", RingInSand.STATE, -3);
        Due.is("FULL", RingInSand.FULL, -4);
        Due.is("NO", RingInSand.NO, -4611686018427387904L);
    }
}
