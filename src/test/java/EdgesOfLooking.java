/** Boundaries of promises 9 to 14: look, next, plan, planned, search, giveUp. */
final class EdgesOfLooking extends Edge {
    private EdgesOfLooking() {
    }

    static void all() {
        lookOdds();
        lookTreads();
        lookClock();
        lookAlone();
        lookRefused();
        nextMost();
        nextNone();
        nextRefused();
        planBounds();
        planThen();
        planRefused();
        plannedBounds();
        searchTruly();
        searchNone();
        giveUpBounds();
        giveUpFirst();
        giveUpRefused();
    }

    /** EYES; it lies nowhere deep, GOOD is s everywhere. */
    private static RingInSand shining(int s) {
        RingInSand x = ruled("deep 0;sea 0;shine " + s + ";");
        due(0, x, "looker", 0, 0);
        return x;
    }

    // ---- promise 9

    private static void lookOdds() {
        of(9, "ODDS of the CELL become ODDS times (100 less GOOD) by 100 (cut);");
        int[][] rows = {
            // ODDS, GOOD, ODDS then
            {0, 0, 0}, {0, 100, 0}, {1, 0, 1}, {1, 1, 0}, {1, 100, 0}, {100, 1, 99}, {99, 1, 98}, {3, 50, 1},
            {199, 99, 1}, {99, 99, 0}, {999999, 0, 999999}, {999999, 1, 989999}, {999999, 99, 9999}, {999999, 100, 0},
        };
        for (int[] row : rows) {
            RingInSand x = shining(row[1]);
            due(0, x, "set", 0, 47, row[0]);
            due(row[2], x, "look", 0, 47);
            due(row[2], x, "told", 47, 0);
        }

        of(9, "A LOOK: ODDS of the CELL then.");
        RingInSand x = anew();
        due(0, x, "looker", 0, 0);
        due(0, x, "set", 0, 0, 1000);
        // GOOD is that of ahead of the look: 90, and with TREADS 2 only 48
        due(100, x, "look", 0, 0);
        due(52, x, "look", 0, 0);
        due(52, x, "told", 0, 0);
        due(0, x, "look", 0, 7);
        due(2, x, "told", 7, 1);
    }

    private static void lookTreads() {
        of(9, "TREADS are STAMPS more (99 at most);");
        int[][] rows = {
            // KIND, NUMBER, TREADS, TREADS then
            {0, 0, 0, 2}, {0, 9, 97, 99}, {0, 0, 98, 99}, {0, 0, 99, 99}, {1, 9, 98, 99}, {1, 0, 99, 99}, {2, 9, 0, 0},
            {2, 9, 99, 99}, {3, 9, 96, 98}, {4, 9, 97, 98}, {5, 0, 97, 99}, {5, 9, 88, 99}, {5, 9, 89, 99},
            {5, 9, 0, 11}, {5, 9, 99, 99},
        };
        for (int[] row : rows) {
            RingInSand x = anew();
            due(0, x, "looker", row[0], row[1]);
            due(0, x, "set", 1, 0, row[2]);
            due(0, x, "look", 0, 0);
            due(row[3], x, "told", 0, 1);
            due(row[3], x, "count", 7);
        }
    }

    private static void lookClock() {
        of(9, "MINUTES are TAKES more (60 are an hour more; behind 23 comes 0).");
        int[][] rows = {
            // KIND, NUMBER, HOUR, MINUTES, HOUR then, MINUTES then
            {0, 0, 12, 57, 12, 59}, {0, 0, 12, 58, 13, 0}, {0, 0, 12, 59, 13, 1}, {2, 9, 12, 44, 12, 59},
            {2, 9, 12, 45, 13, 0}, {2, 9, 12, 59, 13, 14}, {0, 0, 22, 58, 23, 0}, {0, 0, 23, 57, 23, 59},
            {0, 0, 23, 58, 0, 0}, {0, 0, 23, 59, 0, 1}, {2, 9, 23, 59, 0, 14}, {0, 0, 0, 0, 0, 2}, {4, 0, 0, 59, 1, 11},
        };
        for (int[] row : rows) {
            RingInSand x = anew();
            due(0, x, "looker", row[0], row[1]);
            due(12, x, "set", 3, 0, row[2]);
            due(0, x, "set", 4, 0, row[3]);
            due(0, x, "look", 0, 0);
            due(row[4], x, "count", 2);
            due(row[5], x, "count", 3);
        }
    }

    private static void lookAlone() {
        of(9, "A LOOK (truly):");
        // of all that there is ODDS and TREADS of this CELL and the clock alone
        like(() -> {
            RingInSand x = busy();
            due(500, x, "set", 0, 3, 195);
            due(18, x, "set", 3, 0, 19);
            due(58, x, "set", 4, 0, 11);
            return x;
        }, () -> {
            RingInSand x = busy();
            // a SIEVE of 7, where it lies 6 deep: GOOD 61, 13 minutes, no STAMPS
            due(195, x, "look", 1, 3);
            return x;
        });

        of(9, "else, as it isn't found:");
        RingInSand x = shining(100);
        due(0, x, "set", 0, 5, 999999);
        due(0, x, "set", 2, 0, 5);
        due(0, x, "look", 0, 5);
        due(5, x, "most", 1);
        due(5, x, "count", 1);
    }

    private static RingInSand wet() {
        RingInSand x = busy();
        due(3, x, "looker", 0, 0);
        return x;
    }

    private static void lookRefused() {
        of(9, "STATE, if it is under water;");
        changesNothing(Edge::busy, STATE, "look", a(0, 40), a(1, 41), a(2, 47), a(0, 44));
        RingInSand x = anew();
        due(0, x, "looker", 2, 9);
        due(0, x, "set", 0, 40, 100);
        due(12, x, "set", 3, 0, 18);
        due(STATE, x, "look", 0, 40);
        due(0, x, "look", 0, 39);
        due(18, x, "set", 3, 0, 17);
        due(15, x, "set", 4, 0, 44);
        // FINDS 69 less 30, and 30
        due(31, x, "look", 0, 40);
        due(17, x, "count", 2);
        due(9, x, "look", 0, 40);
        due(18, x, "count", 2);
        due(STATE, x, "look", 0, 40);

        of(9, "BAD; STATE.");
        changesNothing(EdgesOfLooking::wet, BAD, "look", a(-1, 0), a(4, 0), a(6, 0), a(MIN, 0), a(MAX, 0), a(0, -1),
                a(0, 48), a(0, MIN), a(0, MAX), a(-1, -1), a(4, 48));
        // BAD goes ahead of STATE
        changesNothing(EdgesOfLooking::wet, BAD, "look", a(-1, 40), a(4, 47), a(6, 44));
        due(BAD, anew(), "look", 0, 0);
    }

    // ---- promise 10

    private static void nextMost() {
        of(10, "NEXT: the LOOKER (what 0), CELL (1), PER MINUTE (2).");
        RingInSand x = anew();
        due(0, x, "looker", 3, 0);
        due(1, x, "looker", 0, 0);
        due(0, x, "set", 0, 0, 999999);
        due(0, x, "set", 0, 9, 5);
        due(1, x, "next", 0);
        due(0, x, "next", 1);
        due(449999, x, "next", 2);
        due(999999, x, "set", 0, 0, 0);
        due(5, x, "set", 0, 9, 0);
        due(0, x, "set", 0, 47, 300);
        // depth 5: PLATE finds 60 in 3 minutes, EYES none
        due(0, x, "next", 0);
        due(47, x, "next", 1);
        due(60, x, "next", 2);

        of(10, "NEXT: the LOOKER and CELL of most PER MINUTE;");
        x = anew();
        for (int i = 0; i < 5; i++) {
            due(i, x, "looker", 4, 0);
        }
        due(5, x, "looker", 0, 0);
        due(0, x, "set", 0, 0, 100);
        due(0, x, "set", 0, 1, 102);
        // the last LOOKER; 91 by 2 are no more than 90 by 2, 92 are
        due(5, x, "next", 0);
        due(0, x, "next", 1);
        due(102, x, "set", 0, 1, 103);
        due(1, x, "next", 1);
        due(46, x, "next", 2);

        of(10, "of like ones the first LOOKER, then the least CELL;");
        x = anew();
        due(0, x, "looker", 0, 1);
        due(1, x, "looker", 0, 2);
        due(0, x, "set", 0, 7, 100);
        due(0, x, "set", 0, 3, 100);
        due(0, x, "next", 0);
        due(3, x, "next", 1);
        x = anew();
        due(0, x, "looker", 3, 0);
        due(1, x, "looker", 0, 0);
        // EYES in 0: 128 by 2; PLATE in 24: 192 by 3
        due(0, x, "set", 0, 0, 143);
        due(0, x, "set", 0, 24, 300);
        due(64, x, "asks", 1, 0, 4);
        due(64, x, "asks", 0, 24, 4);
        due(0, x, "next", 0);
        due(24, x, "next", 1);
        due(143, x, "set", 0, 0, 145);
        due(1, x, "next", 0);
        due(0, x, "next", 1);
    }

    private static void nextNone() {
        of(10, "NONE: none is above 0.");
        RingInSand x = shining(100);
        for (int what = 0; what < 3; what++) {
            due(NONE, x, "next", what);
        }
        due(0, x, "set", 0, 47, 1);
        due(NONE, x, "next", 0);
        due(NONE, x, "next", 1);
        due(NONE, x, "next", 2);
        due(1, x, "set", 0, 47, 2);
        due(0, x, "next", 0);
        due(47, x, "next", 1);
        due(1, x, "next", 2);
        due(2, x, "set", 0, 47, 0);
        // what is in BAG isn't found
        due(0, x, "set", 2, 0, 999999);
        due(NONE, x, "next", 1);
        x = anew();
        due(0, x, "set", 0, 0, 999999);
        due(NONE, x, "next", 0);
        due(0, x, "looker", 0, 0);
        due(0, x, "set", 1, 0, 99);
        due(NONE, x, "next", 0);
        due(99, x, "set", 1, 0, 0);
        due(0, x, "next", 0);
        // without sun EYES find nothing
        due(12, x, "set", 3, 0, 23);
        due(NONE, x, "next", 2);
    }

    private static void nextRefused() {
        of(10, "PER MINUTE (2). BAD; NONE.");
        changesNothing(Edge::busy, BAD, "next", a(-1), a(3), a(MIN), a(MAX));
        changesNothing(Edge::busy, "next", a(0), a(1), a(2));
        changesNothing(() -> shining(0), NONE, "next", a(0), a(1), a(2));
        // BAD goes ahead of NONE
        changesNothing(() -> shining(0), BAD, "next", a(-1), a(3), a(MIN), a(MAX));
    }

    // ---- promise 11

    /** EYES; 1000 in CELL 0, 500 in CELL 1: GAINS are 900, 450, 48, 24, 3 in 0, 1, 0, 1, 0. */
    private static RingInSand two() {
        RingInSand x = anew();
        due(0, x, "looker", 0, 0);
        due(0, x, "set", 0, 0, 1000);
        due(0, x, "set", 0, 1, 500);
        return x;
    }

    private static void planBounds() {
        of(11, "PLAN of n (0 .. 20), in thought, from now on:");
        changesNothing(EdgesOfLooking::two, BAD, "plan", a(-1, 0), a(21, 0), a(MIN, 1), a(MAX, 2));
        RingInSand x = two();
        for (int what = 0; what < 3; what++) {
            due(0, x, "plan", 0, what);
        }
        due(900, x, "plan", 1, 0);
        due(1, x, "plan", 1, 1);
        due(2, x, "plan", 1, 2);
        // from now on: what was looked at is no part of it
        due(100, x, "look", 0, 0);
        due(450, x, "plan", 1, 0);
        due(4, x, "plan", 20, 1);

        of(11, "n LOOKS one behind the other, each the NEXT by then, or fewer, if there is none any more:");
        x = two();
        int[] gains = {0, 900, 1350, 1398, 1422, 1425, 1425, 1425};
        for (int n = 0; n < gains.length; n++) {
            due(gains[n], x, "plan", n, 0);
            due(Math.min(5, n), x, "plan", n, 1);
            due(2 * Math.min(5, n), x, "plan", n, 2);
        }
        due(1425, x, "plan", 20, 0);
        due(5, x, "plan", 20, 1);
        due(10, x, "plan", 20, 2);
        x = shining(1);
        for (int c = 0; c < CELLS; c++) {
            due(0, x, "set", 0, c, 999999);
        }
        due(19, x, "plan", 19, 1);
        due(20, x, "plan", 20, 1);
        due(20 * 9999, x, "plan", 20, 0);
        due(40, x, "plan", 20, 2);

        of(11, "PLAN: GAINS (what 0), LOOKS (1), MINUTES (2).");
        x = anew();
        due(0, x, "looker", 2, 9);
        due(0, x, "set", 0, 47, 999999);
        // FINDS 69 and 30, less 30
        due(689999, x, "plan", 1, 0);
        due(1, x, "plan", 1, 1);
        due(15, x, "plan", 1, 2);
        due(689999 + 213899, x, "plan", 2, 0);

        of(11, "GAINS of all (each told ahead of it), together; how many LOOKS; minutes they TAKE, together;");
        x = anew();
        due(0, x, "looker", 2, 9);
        for (int c = 0; c < 8; c++) {
            due(0, x, "set", 0, c, 1000);
        }
        // of the 10 that are left each time 9 by 15 are none
        due(8 * 990, x, "plan", 20, 0);
        due(8, x, "plan", 20, 1);
        due(8 * 15, x, "plan", 20, 2);
        x = anew();
        for (int i = 0; i < 20; i++) {
            due(0, x, "set", 0, i, 999999);
        }
        due(0, x, "looker", 2, 9);
        // 8 times 989999, 8 times 929999, 4 times 869999; 20 times 15 are 5 hours
        due(8 * 989999 + 8 * 929999 + 4 * 869999, x, "plan", 20, 0);
        due(300, x, "plan", 20, 2);
    }

    private static void planThen() {
        of(11, "each the NEXT by then,");
        // the sea comes: at 17:56 two looks of EYES are left in row 5
        RingInSand x = ruled("deep 0;sea 4<y and 17<hour;shine 50;");
        due(0, x, "looker", 0, 0);
        due(0, x, "set", 0, 40, 1000);
        due(12, x, "set", 3, 0, 17);
        due(0, x, "set", 4, 0, 56);
        due(2, x, "plan", 20, 1);
        due(750, x, "plan", 20, 0);
        due(56, x, "set", 4, 0, 57);
        due(2, x, "plan", 20, 1);
        due(57, x, "set", 4, 0, 58);
        due(1, x, "plan", 20, 1);
        due(17, x, "set", 3, 0, 18);
        due(0, x, "plan", 20, 1);
        // and goes: behind 23 comes 0
        due(18, x, "set", 3, 0, 23);
        due(0, x, "set", 0, 0, 4);
        due(40, x, "planned", 1);
        // TREADS make it deeper
        x = anew();
        due(0, x, "looker", 0, 0);
        due(0, x, "set", 0, 0, 999999);
        due(999999 * 90 / 100, x, "plan", 1, 0);
        // ODDS 99999, GOOD 48; then 51999, GOOD 6
        due(899999 + 47999 + 3119, x, "plan", 3, 0);
        due(3, x, "plan", 20, 1);
    }

    private static void planRefused() {
        of(11, "MINUTES (2). BAD.");
        changesNothing(Edge::busy, BAD, "plan", a(-1, 0), a(21, 0), a(MIN, 0), a(MAX, 0), a(0, -1), a(0, 3), a(20, MIN),
                a(20, MAX), a(21, 3), a(-1, -1));
        changesNothing(Edge::busy, "plan", a(20, 0), a(20, 1), a(20, 2), a(1, 0), a(0, 0));
    }

    // ---- promise 12

    private static void plannedBounds() {
        of(12, "PLAN of 20: the CELL of LOOK i.");
        RingInSand x = two();
        int[] cells = {0, 1, 0, 1, 0, NONE};
        for (int i = 0; i < cells.length; i++) {
            due(cells[i], x, "planned", i);
        }
        due(NONE, x, "planned", 19);
        due(1350, x, "plan", 2, 0);
        due(0, x, "planned", 2);
        x = shining(1);
        for (int c = 0; c < CELLS; c++) {
            due(0, x, "set", 0, c, 1000);
        }
        due(0, x, "planned", 0);
        due(19, x, "planned", 19);
        due(1000, x, "set", 0, 47, 999999);
        due(47, x, "planned", 0);
        due(47, x, "planned", 19);

        of(12, "the CELL of LOOK i (from 0).");
        x = anew();
        due(0, x, "looker", 0, 0);
        due(NONE, x, "planned", 0);
        due(0, x, "set", 0, 6, 3);
        due(6, x, "planned", 0);
        due(NONE, x, "planned", 1);

        of(12, "BAD: i is not 0 .. 19; NONE.");
        changesNothing(Edge::busy, BAD, "planned", a(-1), a(20), a(MIN), a(MAX));
        changesNothing(Edge::busy, "planned", a(0), a(5), a(19));
        changesNothing(() -> shining(0), NONE, "planned", a(0), a(19));
        // BAD goes ahead of NONE
        changesNothing(() -> shining(0), BAD, "planned", a(-1), a(20), a(MIN), a(MAX));
        due(NONE, anew(), "planned", 0);
    }

    // ---- promise 13

    private static void searchTruly() {
        of(13, "NEXT is truly looked at: the CELL.");
        RingInSand x = two();
        int[] cells = {0, 1, 0, 1, 0, NONE, NONE};
        int[] first = {100, 100, 52, 52, 48, 48, 48};
        int[] second = {500, 50, 50, 26, 26, 26, 26};
        for (int i = 0; i < cells.length; i++) {
            due(cells[i], x, "search");
            due(first[i], x, "told", 0, 0);
            due(second[i], x, "told", 1, 0);
        }
        due(10, x, "count", 3);
        due(6, x, "told", 0, 1);
        due(4, x, "told", 1, 1);
        // as if one had looked oneself
        like(() -> {
            RingInSand y = busy();
            due(0, y, "search");
            return y;
        }, () -> {
            RingInSand y = busy();
            due(0, y, "next", 0);
            due(0, y, "next", 1);
            due(500, y, "look", 0, 0);
            return y;
        });
    }

    private static void searchNone() {
        of(13, "the CELL. NONE.");
        changesNothing(() -> shining(0), NONE, "search", a(), a());
        changesNothing(Edge::anew, NONE, "search", a());
        changesNothing(() -> {
            RingInSand x = shining(100);
            due(0, x, "set", 0, 5, 1);
            return x;
        }, NONE, "search", a(), a());
        RingInSand x = shining(100);
        due(0, x, "set", 0, 47, 2);
        due(47, x, "search");
        due(NONE, x, "search");
    }

    // ---- promise 14

    private static void giveUpBounds() {
        of(14, "GIVE UP: how many LOOKS of PLAN of 20 come ahead of the first one whose GAIN is below a price (0 .. 999999).");
        RingInSand x = two();
        int[][] dues = {{0, 5}, {2, 5}, {3, 5}, {4, 4}, {24, 4}, {25, 3}, {48, 3}, {49, 2}, {450, 2}, {451, 1}, {900, 1},
            {901, 0}, {999999, 0}};
        for (int[] d : dues) {
            due(d[1], x, "giveUp", d[0]);
        }
        due(BAD, x, "giveUp", -1);
        due(BAD, x, "giveUp", 1000000);
        // of no LOOK, of all 20, of one that gains all
        x = anew();
        due(0, x, "giveUp", 0);
        due(0, x, "giveUp", 999999);
        x = shining(1);
        for (int c = 0; c < CELLS; c++) {
            due(0, x, "set", 0, c, 1000);
        }
        due(20, x, "giveUp", 0);
        due(20, x, "giveUp", 10);
        due(0, x, "giveUp", 11);
        x = shining(100);
        due(0, x, "set", 0, 0, 999999);
        due(1, x, "giveUp", 999999);
        due(999999, x, "set", 0, 0, 999998);
        due(0, x, "giveUp", 999999);
    }

    private static void giveUpFirst() {
        of(14, "come ahead of the first one");
        // a later GAIN may be more: a SPADE finds 30, then 50 of 700, then 70 of 350
        RingInSand x = ruled("deep trod*10;sea 0;shine 0;");
        due(0, x, "looker", 4, 0);
        due(0, x, "set", 0, 0, 1000);
        due(300, x, "plan", 1, 0);
        due(650, x, "plan", 2, 0);
        due(895, x, "plan", 3, 0);
        due(0, x, "giveUp", 301);
        due(2, x, "giveUp", 300);
        due(2, x, "giveUp", 246);
        due(3, x, "giveUp", 245);
    }

    private static void giveUpRefused() {
        of(14, "GIVE UP. BAD.");
        changesNothing(Edge::busy, BAD, "giveUp", a(-1), a(1000000), a(MIN), a(MAX));
        changesNothing(Edge::busy, "giveUp", a(0), a(10), a(999999));
        // the price is looked at, whether there is a PLAN or not
        changesNothing(Edge::anew, BAD, "giveUp", a(-1), a(1000000));
    }
}
