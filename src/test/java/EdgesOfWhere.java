/** Boundaries of promises 15 to 28: where it is. */
final class EdgesOfWhere extends Edge {
    private EdgesOfWhere() {
    }

    static void all() {
        likelyTerms();
        likelyRefused();
        hereTerms();
        mostBounds();
        underBits();
        drownedOdds();
        drownedHour();
        seenAround();
        seenBounds();
        seenRefused();
        crowdBounds();
        crowdRefused();
        judgeRows();
        judgeThen();
        judgeRefused();
        foundTerms();
        foundRefused();
        drawnSeeds();
        drawnNone();
        foundByBounds();
        foundByRefused();
        imageKeeps();
        imageStays();
        backRefused();
        countAll();
    }

    // ---- promises 15, 16

    private static void share(long above, long below, RingInSand x, int cell) {
        due(above, x, "likely", cell, 0);
        due(below, x, "likely", cell, 1);
    }

    private static void likelyTerms() {
        of(15, "LIKELY: ODDS of a CELL by ALL ODDS;");
        RingInSand x = anew();
        due(0, x, "set", 0, 0, 2);
        due(0, x, "set", 0, 47, 3);
        due(0, x, "set", 2, 0, 6);
        share(2, 11, x, 0);
        share(3, 11, x, 47);
        share(0, 1, x, 46);

        of(15, "ALL ODDS: of all CELLS and BAG.");
        x = anew();
        due(0, x, "set", 2, 0, 999999);
        due(999999, x, "most", 1);
        share(0, 1, x, 0);
        for (int c = 0; c < CELLS; c++) {
            due(0, x, "set", 0, c, 999999);
        }
        due(48999951, x, "most", 1);
        share(1, 49, x, 0);
        due(999999, x, "set", 2, 0, 0);
        due(47999952, x, "most", 1);
        share(1, 48, x, 47);
        due(0, x, "set", 2, 0, 1);
        share(999999, 47999953, x, 47);

        of(15, "LIKELY: part 0 above, 1 below the line, in lowest terms.");
        x = anew();
        due(0, x, "set", 0, 5, 1);
        share(1, 1, x, 5);
        due(0, x, "set", 2, 0, 1);
        share(1, 2, x, 5);
        due(1, x, "set", 0, 5, 999999);
        due(1, x, "set", 2, 0, 999999);
        share(1, 2, x, 5);
        due(999999, x, "set", 2, 0, 999998);
        share(999999, 1999997, x, 5);
        due(999998, x, "set", 2, 0, 333333);
        share(3, 4, x, 5);
        due(999999, x, "set", 0, 5, 30);
        due(333333, x, "set", 2, 0, 42);
        share(5, 12, x, 5);
    }

    private static void likelyRefused() {
        of(15, "NO: none such; no ODDS.");
        changesNothing(Edge::busy, NO, "likely", a(-1, 0), a(48, 0), a(MIN, 0), a(MAX, 1), a(0, -1), a(0, 2), a(0, MIN),
                a(0, MAX), a(48, 2));
        changesNothing(Edge::anew, NO, "likely", a(0, 0), a(0, 1), a(47, 0), a(47, 1), a(48, 0), a(0, 2));
        changesNothing(Edge::busy, "likely", a(0, 0), a(47, 1));
        // once there were ODDS
        RingInSand x = anew();
        due(0, x, "set", 0, 3, 1);
        due(0, x, "set", 2, 0, 1);
        due(1, x, "set", 0, 3, 0);
        share(0, 1, x, 3);
        due(1, x, "set", 2, 0, 0);
        share(NO, NO, x, 3);
    }

    private static void hereTerms() {
        of(16, "HERE: ODDS of all CELLS by ALL ODDS;");
        RingInSand x = anew();
        due(0, x, "set", 0, 0, 5);
        due(0, x, "set", 0, 47, 4);
        due(0, x, "set", 2, 0, 6);
        due(3, x, "here", 0);
        due(5, x, "here", 1);
        due(6, x, "set", 2, 0, 0);
        due(1, x, "here", 0);
        due(1, x, "here", 1);

        of(16, "HERE, likewise.");
        x = anew();
        due(0, x, "set", 2, 0, 999999);
        due(0, x, "here", 0);
        due(1, x, "here", 1);
        for (int c = 0; c < CELLS; c++) {
            due(0, x, "set", 0, c, 999999);
        }
        due(48, x, "here", 0);
        due(49, x, "here", 1);
        due(999999, x, "set", 2, 0, 1);
        due(47999952, x, "here", 0);
        due(47999953, x, "here", 1);

        of(16, "likewise. NO.");
        changesNothing(Edge::busy, NO, "here", a(-1), a(2), a(MIN), a(MAX));
        changesNothing(Edge::anew, NO, "here", a(0), a(1), a(2));
        changesNothing(Edge::busy, "here", a(0), a(1));
    }

    // ---- promise 17

    private static void mostBounds() {
        of(17, "the CELL of most ODDS, of like ones the first; NONE, if no CELL has any.");
        RingInSand x = anew();
        due(NONE, x, "most", 0);
        due(0, x, "set", 2, 0, 999999);
        due(NONE, x, "most", 0);
        due(0, x, "set", 0, 47, 1);
        due(47, x, "most", 0);
        due(0, x, "set", 0, 30, 1);
        due(30, x, "most", 0);
        due(1, x, "set", 0, 47, 2);
        due(47, x, "most", 0);
        due(0, x, "set", 0, 0, 2);
        due(0, x, "most", 0);

        of(17, "The CELL of most ODDS (what 0; NONE), ALL ODDS (1). BAD.");
        x = anew();
        due(0, x, "most", 1);
        due(0, x, "set", 0, 0, 999999);
        due(0, x, "set", 0, 47, 999999);
        due(0, x, "set", 2, 0, 999999);
        due(2999997, x, "most", 1);
        changesNothing(Edge::busy, BAD, "most", a(-1), a(2), a(MIN), a(MAX));
        changesNothing(Edge::busy, "most", a(0), a(1));
        // BAD goes ahead of NONE
        changesNothing(Edge::anew, BAD, "most", a(-1), a(2));
        changesNothing(Edge::anew, NONE, "most", a(0));
    }

    // ---- promise 18

    private static void underBits() {
        of(18, "UNDER: CELLS of a row y (bits by x) that are under water now;");
        RingInSand x = ruled("deep 0;sea x=y+trod or hour=3 and y=5;shine 0;");
        for (int y = 0; y < 6; y++) {
            due(1 << y, x, "under", y);
        }
        due(0, x, "set", 1, 7, 7);
        due(129, x, "under", 0);
        due(2, x, "under", 1);
        due(12, x, "set", 3, 0, 3);
        due(255, x, "under", 5);
        due(16, x, "under", 4);
        x = anew();
        due(12, x, "set", 3, 0, 17);
        due(0, x, "under", 5);
        due(17, x, "set", 3, 0, 18);
        due(255, x, "under", 5);
        due(0, x, "under", 4);

        of(18, "UNDER: CELLS of a STRIP (bits). BAD.");
        changesNothing(Edge::busy, BAD, "under", a(-1), a(6), a(MIN), a(MAX));
        changesNothing(Edge::busy, "under", a(0), a(5));
    }

    // ---- promise 19

    private static void drownedOdds() {
        of(19, "ODDS of all CELLS that are, together;");
        RingInSand x = ruled("deep 0;sea 1;shine 0;");
        due(0, x, "drowned", 0);
        due(0, x, "set", 2, 0, 999999);
        due(0, x, "drowned", 0);
        for (int c = 0; c < CELLS; c++) {
            due(0, x, "set", 0, c, 999999);
        }
        due(47999952, x, "drowned", 0);
        x = ruled("deep 0;sea x=7 and y=5 or trod=9;shine 0;");
        due(0, x, "set", 0, 47, 3);
        due(0, x, "set", 0, 0, 4);
        due(0, x, "set", 0, 46, 100);
        due(3, x, "drowned", 0);
        due(0, x, "set", 1, 0, 9);
        due(7, x, "drowned", 0);

        of(19, "ODDS that are under water (what 0), the HOUR (1). BAD.");
        changesNothing(Edge::busy, BAD, "drowned", a(-1), a(2), a(MIN), a(MAX));
        changesNothing(Edge::busy, "drowned", a(0), a(1));
        due(1041 + 1047, busy(), "drowned", 0);
        due(18, busy(), "drowned", 1);
    }

    private static void drownedHour() {
        of(19, "of HOURS from THE HOUR to 23 that in which these would be most (ODDS as now), of like ones the first.");
        // row y is under water from y + 18 to y + 19
        RingInSand x = ruled("deep 0;sea y+17<hour and hour<y+20;shine 0;");
        due(12, x, "drowned", 1);
        due(0, x, "set", 2, 0, 999999);
        due(12, x, "drowned", 1);
        due(0, x, "set", 0, 0, 5);
        due(18, x, "drowned", 1);
        // 19: rows 0 and 1 together
        due(0, x, "set", 0, 8, 5);
        due(19, x, "drowned", 1);
        due(0, x, "set", 0, 47, 11);
        due(23, x, "drowned", 1);
        due(11, x, "set", 0, 47, 10);
        due(19, x, "drowned", 1);
        due(12, x, "set", 3, 0, 20);
        due(23, x, "drowned", 1);
        due(20, x, "set", 3, 0, 23);
        due(23, x, "drowned", 1);
        due(10, x, "set", 0, 47, 0);
        due(23, x, "drowned", 1);
        due(23, x, "set", 3, 0, 21);
        due(21, x, "drowned", 1);
        due(21, x, "set", 3, 0, 0);
        due(19, x, "drowned", 1);
        // the HOURS ahead of THE HOUR are no part of it, nor is there one behind 23
        x = ruled("deep 0;sea hour=11 or hour=24 or hour=0;shine 0;");
        due(0, x, "set", 0, 3, 1);
        due(12, x, "drowned", 1);
        x = ruled("deep 0;sea hour=12 or hour=23;shine 0;");
        due(0, x, "set", 0, 3, 1);
        due(12, x, "drowned", 1);
        due(12, x, "set", 3, 0, 13);
        due(23, x, "drowned", 1);
        // by TREADS as now, and by the sun of that HOUR
        x = ruled("deep 0;sea sun=10*trod;shine 0;");
        due(0, x, "set", 0, 3, 1);
        due(0, x, "set", 1, 3, 2);
        due(21, x, "drowned", 1);
        due(2, x, "set", 1, 3, 10);
        due(13, x, "drowned", 1);
        due(0, x, "drowned", 0);
    }

    // ---- promise 20

    private static void seenAround() {
        of(20, "SEEN (truly): a SHEET tells CELLS of pictures, one behind the other: for each its ODDS are w (0 .. 9999) more,"
                + " and ODDS of those beside it (y or x 1 less or more) half (cut) of w more (999999 at most each).");
        RingInSand x = anew();
        laid(x, 0, 0, 0, 7, 40, 47);
        due(4, x, "seen", 0, 11);
        int[][] dues = {{0, 11}, {1, 5}, {8, 5}, {9, 0}, {7, 11}, {6, 5}, {15, 5}, {14, 0}, {40, 11}, {32, 5}, {41, 5},
            {33, 0}, {39, 5}, {47, 11}, {46, 5}, {38, 0}};
        for (int[] d : dues) {
            due(d[1], x, "told", d[0], 0);
        }
        due(4 * 11 + 8 * 5, x, "most", 1);
        // the end of a row isn't beside the next one's begin
        x = anew();
        laid(x, 0, 1, 15, 16);
        due(2, x, "seen", 0, 2);
        due(2, x, "told", 15, 0);
        due(2, x, "told", 16, 0);
        due(2 * 2 + 6, x, "most", 1);
        // one ahead of the end, one behind the begin
        x = anew();
        laid(x, 0, 0, 14, 33);
        due(2, x, "seen", 0, 2);
        due(1, x, "told", 15, 0);
        due(0, x, "told", 16, 0);
        due(1, x, "told", 32, 0);
        due(0, x, "told", 31, 0);
        due(2 * 2 + 8, x, "most", 1);
        // one CELL twice, and its neighbour
        x = anew();
        laid(x, 0, 2, 20, 20, 21);
        due(3, x, "seen", 0, 9999);
        due(2 * 9999 + 4999, x, "told", 20, 0);
        due(9999 + 2 * 4999, x, "told", 21, 0);
        due(4999, x, "told", 22, 0);
        due(2 * 4999, x, "told", 19, 0);
        due(2 * 4999, x, "told", 12, 0);
        due(4999, x, "told", 29, 0);
    }

    private static void seenBounds() {
        of(20, "half (cut) of w more (999999 at most each).");
        int[][] rows = {
            // w, of the CELL, beside it
            {0, 0, 0}, {1, 1, 0}, {2, 2, 1}, {3, 3, 1}, {9998, 9998, 4999}, {9999, 9999, 4999},
        };
        for (int[] row : rows) {
            RingInSand x = anew();
            laid(x, 3, 0, 9);
            due(1, x, "seen", 3, row[0]);
            due(row[1], x, "told", 9, 0);
            due(row[2], x, "told", 1, 0);
        }
        RingInSand x = anew();
        due(0, x, "set", 0, 9, 999998);
        due(0, x, "set", 0, 10, 999999);
        due(0, x, "set", 0, 1, 999998);
        due(0, x, "set", 0, 8, 999997);
        due(0, x, "set", 2, 0, 7);
        laid(x, 3, 0, 9);
        due(1, x, "seen", 3, 2);
        due(999999, x, "told", 9, 0);
        due(999999, x, "told", 10, 0);
        due(999999, x, "told", 1, 0);
        due(999998, x, "told", 8, 0);
        due(1, x, "told", 17, 0);
        due(7, x, "count", 1);

        of(20, "SEEN: how many CELLS it told.");
        x = anew();
        due(1, x, "sheet", 0, 2, 0);
        due(0, x, "seen", 0, 9999);
        due(1, x, "sheet", 0, 2, 40);
        due(40, x, "seen", 0, 9999);
        due(40 * 9999, x, "told", 0, 0);
        due(40 * 4999, x, "told", 8, 0);
        due(40, x, "seen", 0, 0);
        due(40, x, "seen", 0, 9999);
        due(40, x, "seen", 0, 9999);
        due(999999, x, "told", 0, 0);
        due(120 * 4999, x, "told", 1, 0);
        laid(x, 0, 0, 47, 47);
        due(2, x, "seen", 0, 1);
        due(2, x, "told", 47, 0);
    }

    private static RingInSand withSheets() {
        RingInSand x = busy();
        laid(x, 0, 0, 3, 3, 48);
        laid(x, 1, 1, -1, 3);
        laid(x, 2, 2, 3, MAX, MIN);
        return x;
    }

    private static void seenRefused() {
        of(20, "BAD: SHEET, w; -11; BAD: a number is no CELL.");
        changesNothing(Edge::busy, BAD, "seen", a(-1, 5), a(4, 5), a(MIN, 5), a(MAX, 5), a(0, -1), a(0, 10000), a(0, MIN),
                a(0, MAX), a(4, -1), a(-1, 10000));
        changesNothing(Edge::busy, NOTHING, "seen", a(3, 0), a(3, 9999));
        // the last number, the first, one between
        changesNothing(EdgesOfWhere::withSheets, BAD, "seen", a(0, 5), a(1, 5), a(2, 5), a(0, 0));
        // BAD of w goes ahead of -11; both BAD
        changesNothing(EdgesOfWhere::withSheets, BAD, "seen", a(3, -1), a(3, 10000), a(4, 10000), a(0, -1), a(0, 10000));
        RingInSand x = anew();
        laid(x, 0, 0, 47);
        due(1, x, "seen", 0, 2);
        laid(x, 0, 0, 48);
        due(BAD, x, "seen", 0, 2);
        laid(x, 0, 0, 255);
        due(BAD, x, "seen", 0, 2);
        laid(x, 0, 0, 256);
        due(1, x, "seen", 0, 2);
        due(2, x, "told", 0, 0);
    }

    // ---- promise 21

    private static void crowdBounds() {
        of(21, "CROWD (truly): of n (1 .. 8) CELLS of a row, from one on, x upward, as far as there are any,"
                + " TREADS are some (1 .. 99) more (99 at most each).");
        int[][] rows = {
            // CELL, n, how many
            {0, 1, 1}, {0, 8, 8}, {0, 7, 7}, {1, 7, 7}, {1, 8, 7}, {6, 2, 2}, {6, 3, 2}, {7, 1, 1}, {7, 2, 1}, {7, 8, 1},
            {8, 8, 8}, {40, 8, 8}, {46, 8, 2}, {47, 1, 1}, {47, 8, 1},
        };
        for (int[] row : rows) {
            RingInSand x = anew();
            due(row[2], x, "crowd", row[0], row[1], 1);
            due(row[2], x, "count", 7);
            for (int c = 0; c < CELLS; c++) {
                due(c >= row[0] && c < row[0] + row[2] ? 1 : 0, x, "told", c, 1);
            }
        }
        int[][] treads = {{0, 1, 1}, {0, 99, 99}, {98, 1, 99}, {99, 1, 99}, {98, 2, 99}, {1, 99, 99}, {99, 99, 99}};
        for (int[] row : treads) {
            RingInSand x = anew();
            due(0, x, "set", 1, 47, row[0]);
            due(2, x, "crowd", 46, 2, row[1]);
            due(row[2], x, "told", 47, 1);
            due(row[1], x, "told", 46, 1);
        }

        of(21, "CROWD: how many CELLS there were.");
        RingInSand x = anew();
        due(1, x, "crowd", 15, 8, 99);
        due(1, x, "crowd", 15, 8, 99);
        due(0, x, "told", 16, 1);
        // neither ODDS nor the clock
        due(0, x, "most", 1);
        due(0, x, "count", 3);
    }

    private static void crowdRefused() {
        of(21, "BAD: CELL, n, treads.");
        changesNothing(Edge::busy, BAD, "crowd", a(-1, 1, 1), a(48, 1, 1), a(MIN, 1, 1), a(MAX, 1, 1), a(0, 0, 1),
                a(0, 9, 1), a(0, -1, 1), a(0, MIN, 1), a(0, MAX, 1), a(0, 1, 0), a(0, 1, 100), a(0, 1, -1),
                a(0, 1, MIN), a(0, 1, MAX), a(48, 9, 100), a(-1, 0, 0), a(7, 9, 1));
    }

    // ---- promise 22

    private static RingInSand eyes() {
        RingInSand x = anew();
        due(0, x, "looker", 0, 0);
        due(0, x, "set", 0, 0, 1000);
        due(0, x, "set", 0, 1, 500);
        due(0, x, "set", 2, 0, 300);
        return x;
    }

    private static void judged(long want, int sort, int... numbers) {
        RingInSand x = eyes();
        laid(x, 2, sort, numbers);
        due(want, x, "judge", 2);
    }

    private static void judgeRows() {
        of(22, "JUDGED: a SHEET tells rows of two, a LOOKER and a CELL, that are LOOKS one behind the other, in thought:"
                + " the first row (from 0) that is none such,");
        judged(0, 0, 1, 0);
        judged(0, 1, -1, 0);
        judged(0, 0, 0, 48);
        judged(0, 1, 0, -1);
        judged(0, 2, MAX, MIN);
        judged(0, 2, 0, 256);
        judged(1, 0, 0, 47, 1, 47);
        judged(2, 0, 0, 0, 0, 47, 47, 0);
        judged(1, 0, 0, 0, 0, 48, 1, 0);
        // what comes behind doesn't matter
        judged(0, 2, 1, 0, 0, 0, MAX, MAX);
        // of bytes the lowest 8 bits
        judged(NONE, 0, 256, 256 + 47);

        of(22, "that is none such, or whose CELL is under water by then; NONE;");
        judged(NONE, 0);
        judged(NONE, 2, 0, 0);
        judged(NONE, 1, 0, 47, 0, 0);
        RingInSand x = eyes();
        due(1, x, "sheet", 1, 0, 40);
        due(NONE, x, "judge", 1);
        due(1, x, "cell", 1, 39, 48);
        due(19, x, "judge", 1);
        due(1, x, "cell", 1, 0, 1);
        due(0, x, "judge", 1);
    }

    private static void judgeThen() {
        of(22, "whose CELL is under water by then;");
        // looks of 15 minutes: it is 18 by the third row, or the second, or the first
        RingInSand x = anew();
        due(0, x, "looker", 2, 9);
        laid(x, 0, 0, 0, 40, 0, 47, 0, 41);
        due(12, x, "set", 3, 0, 17);
        due(0, x, "set", 4, 0, 29);
        due(NONE, x, "judge", 0);
        due(29, x, "set", 4, 0, 30);
        due(2, x, "judge", 0);
        due(30, x, "set", 4, 0, 45);
        due(1, x, "judge", 0);
        due(17, x, "set", 3, 0, 18);
        due(0, x, "judge", 0);
        due(18, x, "set", 3, 0, 23);
        due(0, x, "judge", 0);
        laid(x, 0, 0, 0, 39, 0, 40);
        due(NONE, x, "judge", 0);
        // by its own TREADS
        x = ruled("deep 0;sea 3<trod;shine 0;");
        due(0, x, "looker", 0, 0);
        laid(x, 0, 0, 0, 5, 0, 5, 0, 5);
        due(2, x, "judge", 0);
        due(0, x, "set", 1, 5, 4);
        due(0, x, "judge", 0);
        // in thought
        changesNothing(Edge::busy, "judge", a(0), a(2));
    }

    private static RingInSand oddSheets() {
        RingInSand x = busy();
        due(1, x, "sheet", 0, 0, 1);
        due(1, x, "sheet", 1, 1, 39);
        laid(x, 2, 2, 9, 9, 9);
        return x;
    }

    private static void judgeRefused() {
        of(22, "JUDGED. BAD: SHEET; -11; BAD: its size is odd; NONE.");
        changesNothing(Edge::busy, BAD, "judge", a(-1), a(4), a(MIN), a(MAX));
        changesNothing(Edge::busy, NOTHING, "judge", a(3));
        // odd goes ahead of a row that is none such
        changesNothing(EdgesOfWhere::oddSheets, BAD, "judge", a(0), a(1), a(2));
        RingInSand x = anew();
        due(1, x, "sheet", 0, 0, 2);
        due(0, x, "judge", 0);
        due(1, x, "sheet", 0, 0, 1);
        due(BAD, x, "judge", 0);
        due(1, x, "sheet", 0, 0, 0);
        due(NONE, x, "judge", 0);
    }

    // ---- promise 23

    private static void found(long above, long below, RingInSand x, int... numbers) {
        laid(x, 1, 0, numbers);
        due(above, x, "found", 1, 0);
        due(below, x, "found", 1, 1);
    }

    private static void foundTerms() {
        of(23, "GAINS of all rows ahead of that, together, by ALL ODDS (as now).");
        // 900, then 48, then 450, of 1800
        found(0, 1, eyes());
        found(1, 2, eyes(), 0, 0);
        found(79, 150, eyes(), 0, 0, 0, 0);
        found(233, 300, eyes(), 0, 0, 0, 0, 0, 1);
        found(233, 300, eyes(), 0, 0, 0, 0, 0, 1, 0, 48);
        found(79, 150, eyes(), 0, 0, 0, 0, 1, 1, 0, 1);
        found(0, 1, eyes(), 1, 0, 0, 0);
        found(0, 1, eyes(), 0, 2);
        // ahead of a CELL that is under water by then
        RingInSand x = eyes();
        due(12, x, "set", 3, 0, 17);
        due(0, x, "set", 4, 0, 58);
        due(0, x, "set", 0, 40, 999999);
        due(300, x, "set", 2, 0, 0);
        // the sun is 60: 600 of 1001499
        found(200, 333833, x, 0, 0, 0, 40, 0, 1);

        of(23, "How likely: part 0 above, 1 below the line, in lowest terms.");
        x = anew();
        due(0, x, "looker", 0, 0);
        due(0, x, "set", 2, 0, 999999);
        found(0, 1, x, 0, 0);
        x = ruled("deep 0;sea 0;shine 100;");
        due(0, x, "looker", 0, 0);
        due(0, x, "set", 0, 47, 999999);
        found(1, 1, x, 0, 47);
        due(0, x, "set", 0, 46, 999999);
        found(1, 2, x, 0, 47);
        found(1, 1, x, 0, 47, 0, 46, 0, 47);
        due(0, x, "set", 2, 0, 1);
        found(999999, 1999999, x, 0, 46);
    }

    private static void foundRefused() {
        of(23, "NO: as of judge(); part; no ODDS.");
        changesNothing(Edge::busy, NO, "found", a(-1, 0), a(4, 0), a(MIN, 1), a(MAX, 1), a(3, 0), a(3, 1), a(0, -1),
                a(0, 2), a(0, MIN), a(0, MAX), a(4, 2), a(3, 2));
        changesNothing(EdgesOfWhere::oddSheets, NO, "found", a(0, 0), a(1, 1), a(2, 0), a(2, 2));
        changesNothing(() -> {
            RingInSand x = anew();
            due(0, x, "looker", 0, 0);
            laid(x, 0, 0, 0, 0);
            due(1, x, "sheet", 1, 1, 0);
            return x;
        }, NO, "found", a(0, 0), a(0, 1), a(1, 0), a(1, 1), a(0, 2), a(2, 0));
        changesNothing(Edge::busy, "found", a(0, 0), a(2, 1));
    }

    // ---- promises 24, 25

    /** By the words; of these ODDS the first are on 3, the others on 46. */
    private static int drawnOf(int seed, int first, int last, int bag) {
        long z = (seed * 1103515245L + 12345L) & 0xffffffffL;
        long rest = (z >> 4) % (first + last + bag);
        return rest < first ? 3 : rest < first + last ? 46 : NONE;
    }

    private static void drawnSeeds() {
        of(24, "DRAWN by a SEED: z = SEED * 1103515245 + 12345 (an int); the first CELL for which ODDS of it and of all CELLS"
                + " ahead are more, together, than (z >>> 4) modulo ALL ODDS;");
        int[] seeds = {0, 1, 2, 3, 4, 5, 6, 7, -1, -2, -3, -4, 77, 1000000, MIN, MIN + 1, MIN + 2, MAX, MAX - 1, MAX - 2};
        int[][] odds = {{7, 4, 5}, {1, 1, 1}, {999999, 999999, 999999}, {1, 0, 999999}, {0, 1, 0}, {123456, 654321, 0}};
        for (int[] row : odds) {
            RingInSand x = anew();
            due(0, x, "set", 0, 3, row[0]);
            due(0, x, "set", 0, 46, row[1]);
            due(0, x, "set", 2, 0, row[2]);
            for (int seed : seeds) {
                due(drawnOf(seed, row[0], row[1], row[2]), x, "drawn", seed);
            }
        }
        // of SEED 0 it is 771
        RingInSand x = anew();
        due(0, x, "set", 0, 3, 771);
        due(0, x, "set", 0, 46, 771);
        due(46, x, "drawn", 0);
        due(771, x, "set", 0, 3, 772);
        due(3, x, "drawn", 0);
        due(772, x, "set", 0, 3, 770);
        due(46, x, "drawn", 0);
        due(771, x, "set", 0, 46, 1);
        // 771 modulo 771 is 0
        due(3, x, "drawn", 0);
        due(1, x, "set", 0, 46, 2);
        due(46, x, "drawn", 0);
        // all 48 together are one more than 771
        x = anew();
        for (int c = 0; c < CELLS; c++) {
            due(0, x, "set", 0, c, c < 47 ? 16 : 20);
        }
        due(47, x, "drawn", 0);
        due(0, x, "set", 2, 0, 1);
        due(47, x, "drawn", 0);
        due(20, x, "set", 0, 47, 19);
        due(1, x, "set", 2, 0, 2);
        due(NONE, x, "drawn", 0);
    }

    private static void drawnNone() {
        of(24, "NONE, if there is none (it is in BAG), or no ODDS.");
        RingInSand x = anew();
        int[] seeds = {0, 1, -1, MIN, MAX};
        for (int seed : seeds) {
            due(NONE, x, "drawn", seed);
        }
        due(0, x, "set", 2, 0, 1);
        for (int seed : seeds) {
            due(NONE, x, "drawn", seed);
        }
        due(0, x, "set", 0, 47, 1);
        due(1, x, "set", 2, 0, 0);
        for (int seed : seeds) {
            due(47, x, "drawn", seed);
        }
        due(1, x, "set", 0, 47, 0);
        due(NONE, x, "drawn", 1);

        of(24, "DRAWN. NONE.");
        changesNothing(Edge::busy, "drawn", a(0), a(MIN), a(MAX));
        changesNothing(Edge::anew, NONE, "drawn", a(0), a(MIN), a(MAX));
    }

    private static void foundByBounds() {
        of(25, "FOUND: for how many of n seeds (1 .. 20), SEED and each 1 more (an int), PLAN of 20 looks at the CELL DRAWN.");
        // PLAN looks at CELL 3 alone: EYES in 46 find nothing
        int[][] odds = {{7, 4, 5}, {999999, 999999, 999999}, {30, 10, 0}};
        int[] seeds = {0, 1, -1, -10, MIN, MAX, MAX - 5, MAX - 19};
        for (int[] row : odds) {
            RingInSand x = anew();
            due(0, x, "looker", 0, 0);
            due(0, x, "set", 0, 3, row[0]);
            due(0, x, "set", 0, 46, row[1]);
            due(0, x, "set", 2, 0, row[2]);
            due(3, x, "planned", 0);
            for (int seed : seeds) {
                int times = 0;
                for (int n = 1; n <= 20; n++) {
                    times += drawnOf(seed + n - 1, row[0], row[1], row[2]) == 3 ? 1 : 0;
                    if (n < 3 || n > 18) {
                        due(times, x, "foundBy", seed, n);
                    }
                }
            }
        }
        // without a PLAN, without ODDS, with all in BAG none is found; with all in one CELL each
        RingInSand x = anew();
        due(0, x, "foundBy", 0, 20);
        due(0, x, "looker", 0, 0);
        due(0, x, "foundBy", 0, 20);
        due(0, x, "set", 2, 0, 9);
        due(0, x, "foundBy", MAX, 20);
        due(9, x, "set", 2, 0, 0);
        due(0, x, "set", 0, 0, 9);
        due(20, x, "foundBy", MAX, 20);
        due(1, x, "foundBy", MIN, 1);
        // the PLAN is of 20: beyond that many CELLS it doesn't look
        x = ruled("deep 0;sea 0;shine 1;");
        due(0, x, "looker", 0, 0);
        for (int c = 0; c < CELLS; c++) {
            due(0, x, "set", 0, c, 999999);
        }
        for (int seed = 0; seed < 20; seed++) {
            long cell = call(x, "drawn", seed);
            due(cell < 20 ? 1 : 0, x, "foundBy", seed, 1);
        }
    }

    private static void foundByRefused() {
        of(25, "FOUND. BAD: n.");
        changesNothing(Edge::busy, BAD, "foundBy", a(0, 0), a(0, 21), a(0, -1), a(MAX, MIN), a(MIN, MAX));
        changesNothing(Edge::anew, BAD, "foundBy", a(0, 0), a(0, 21));
        changesNothing(Edge::busy, "foundBy", a(0, 1), a(MAX, 20));
    }

    // ---- promises 26, 27

    private static void imageKeeps() {
        of(26, "AN IMAGE keeps ODDS, TREADS, BAG, THE HOUR, MINUTES, THE RULE (LOOKERS that came since stay).");
        RingInSand x = fed(anew(), "deep 9" + REST);
        due(1, x, "text");
        due(0, x, "set", 0, 0, 1);
        due(0, x, "set", 0, 47, 999999);
        due(0, x, "set", 1, 0, 99);
        due(0, x, "set", 1, 47, 1);
        due(0, x, "set", 2, 0, 5);
        due(12, x, "set", 3, 0, 23);
        due(0, x, "set", 4, 0, 59);
        due(0, x, "force", 1);
        due(23, x, "image");
        due(1, x, "set", 0, 0, 0);
        due(999999, x, "set", 0, 47, 0);
        due(0, x, "set", 0, 20, 8);
        due(99, x, "set", 1, 0, 0);
        due(1, x, "set", 1, 47, 0);
        due(0, x, "set", 1, 20, 8);
        due(5, x, "set", 2, 0, 0);
        due(23, x, "set", 3, 0, 0);
        due(59, x, "set", 4, 0, 0);
        due(1, x, "force", 0);
        due(0, x, "looker", 3, 4);
        due(23, x, "back");
        due(1, x, "told", 0, 0);
        due(999999, x, "told", 47, 0);
        due(0, x, "told", 20, 0);
        due(99, x, "told", 0, 1);
        due(1, x, "told", 47, 1);
        due(0, x, "told", 20, 1);
        int[] counts = {1, 5, 23, 59, 2, 0, 1, 100};
        for (int what = 0; what < counts.length; what++) {
            due(counts[what], x, "count", what);
        }
        due(9, x, "told", 20, 2);
        due(4, x, "taken", 0, 3);

        of(26, "AN IMAGE is kept: THE HOUR.");
        x = anew();
        due(12, x, "image");
        due(12, x, "set", 3, 0, 0);
        due(12, x, "back");
        due(12, x, "set", 3, 0, 0);
        // the newest one is kept alone
        due(0, x, "image");
        due(0, x, "set", 3, 0, 23);
        due(0, x, "back");
        due(0, x, "set", 3, 0, 23);
        due(23, x, "image");
        due(23, x, "back");
        // what one asks of it doesn't change by it
        like(() -> {
            RingInSand y = busy();
            due(18, y, "image");
            return y;
        }, () -> {
            RingInSand y = busy();
            due(18, y, "image");
            due(18, y, "image");
            due(18, y, "back");
            return y;
        });
    }

    private static void imageStays() {
        of(27, "All that it keeps is as in THE IMAGE: THE HOUR.");
        RingInSand x = anew();
        due(12, x, "image");
        due(0, x, "set", 0, 5, 7);
        due(12, x, "set", 3, 0, 20);
        due(12, x, "back");
        due(0, x, "told", 5, 0);
        due(12, x, "count", 2);
        // THE IMAGE stays, and isn't changed by what comes behind
        due(0, x, "set", 0, 5, 8);
        due(12, x, "set", 3, 0, 21);
        due(12, x, "back");
        due(0, x, "told", 5, 0);
        due(12, x, "back");
        due(0, x, "most", 1);

        of(27, "(LOOKERS that came since stay)");
        // and so do TEXTS, THE TAPE, SHEETS, which it doesn't keep
        x = anew();
        due(12, x, "image");
        due(0, x, "looker", 2, 6);
        fed(x, "deep 8" + REST);
        due(1, x, "text");
        due(0, x, "force", 1);
        fed(x, "deep");
        laid(x, 1, 0, 5);
        due(12, x, "back");
        due(6, x, "taken", 0, 2);
        due(1, x, "count", 0);
        due(2, x, "count", 4);
        due(4, x, "count", 5);
        due(0, x, "count", 6);
        due(0, x, "told", 0, 2);
        due(1, x, "seen", 1, 0);
        due(0, x, "force", 1);
        due(8, x, "told", 0, 2);
    }

    private static void backRefused() {
        of(27, "STATE: there is none.");
        changesNothing(Edge::anew, STATE, "back", a(), a());
        changesNothing(() -> {
            RingInSand x = eyes();
            laid(x, 0, 0, 3, 4);
            return fed(x, "deep");
        }, STATE, "back", a(), a());
        RingInSand x = anew();
        due(STATE, x, "back");
        due(12, x, "image");
        due(12, x, "back");
        due(12, x, "back");
    }

    // ---- promise 28

    private static void countAll() {
        of(28, "How many: 0 LOOKERS, 1 BAG, 2 THE HOUR, 3 MINUTES, 4 TEXTS, 5 bytes of THE TAPE, 6 THE RULE, 7 TREADS of all"
                + " CELLS.");
        int[] first = {0, 0, 12, 0, 1, 0, 0, 0};
        RingInSand x = anew();
        for (int what = 0; what < 8; what++) {
            due(first[what], x, "count", what);
        }
        for (int i = 0; i < 6; i++) {
            due(i, x, "looker", 0, 0);
        }
        due(0, x, "set", 2, 0, 999999);
        due(12, x, "set", 3, 0, 23);
        due(0, x, "set", 4, 0, 59);
        for (int y = 0; y < 6; y++) {
            due(8, x, "crowd", 8 * y, 8, 99);
        }
        for (int t = 1; t <= 5; t++) {
            due(t, fed(x, "deep 1" + REST), "text");
        }
        due(0, x, "force", 5);
        for (int i = 1; i <= 160; i++) {
            due(i, x, "feed", 32);
        }
        int[] most = {6, 999999, 23, 59, 6, 160, 5, 4752};
        for (int what = 0; what < 8; what++) {
            due(most[what], x, "count", what);
        }

        of(28, "7 TREADS of all CELLS. BAD.");
        changesNothing(Edge::busy, BAD, "count", a(-1), a(8), a(MIN), a(MAX));
        changesNothing(Edge::busy, "count", a(0), a(4), a(7));
    }
}
