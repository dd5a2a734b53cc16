/** Boundaries of promises 29 to 33, the host; and how often an object is used. */
final class EdgesOfHost extends Edge {
    private EdgesOfHost() {
    }

    static void all() {
        refusalsOfTheHost();
        sheetBounds();
        sheetZero();
        sheetRefused();
        cellBits();
        cellPlaces();
        cellRefused();
        copyPlaces();
        copyAsTheyWere();
        copyRefused();
        copyOrder();
        lookersTwoByTwo();
        lookersOutside();
        lookersLeftOut();
        lookersRefused();
        takenUnder();
        takenRefused();
        lastCalls();
    }

    private static void isRow(RingInSand x, int sheet, int sort, int... items) {
        String got = row(x, sheet);
        String want = rowOf(sort, items);
        holds("sheet " + sheet + " is " + got + ", due is " + want, got.equals(want));
    }

    private static void refusalsOfTheHost() {
        of(29, "the host's: -11 nothing where something is asked, -12 a place outside, -13 a thing of another sort or KIND,"
                + " -14 a size below 0.");
        RingInSand x = anew();
        due(-11, x, "cell", 0, 0, 0);
        due(-14, x, "sheet", 0, 0, -1);
        due(1, x, "sheet", 0, 0, 1);
        due(-12, x, "cell", 0, 1, 0);
        due(-13, x, "lookers", 0, 1, 0, 0);
        due(0, x, "looker", 0, 0);
        due(-13, x, "taken", 0, 1);

        of(29, "Refusals, the first that the call's words name; they change nothing:");
        due(BAD, x, "sheet", 4, 0, -1);
        due(BAD, x, "lookers", 4, 1, 9, 1);
        due(UNLIKE, x, "lookers", 0, 1, 9, 1);
        due(OUTSIDE, x, "lookers", 0, 0, 9, 1);
        due(1, x, "count", 0);
        due(OUTSIDE, x, "cell", 0, 1, 0);
    }

    // ---- promise 29

    private static void sheetBounds() {
        of(29, "A SHEET becomes a row of n of a sort, all 0, or missing (sort -1: n does not matter): 1.");
        for (int s = 0; s < 4; s++) {
            for (int sort = 0; sort < 3; sort++) {
                int[] sizes = {0, 1, 39, 40};
                for (int n : sizes) {
                    RingInSand x = anew();
                    due(1, x, "sheet", s, sort, n);
                    isRow(x, s, sort, new int[n]);
                }
            }
            int[] any = {0, 40, 41, -1, MIN, MAX};
            for (int n : any) {
                RingInSand x = anew();
                due(1, x, "sheet", s, -1, n);
                due(NOTHING, x, "judge", s);
                laid(x, s, 1, 3, 4);
                due(1, x, "sheet", s, -1, n);
                due(NOTHING, x, "judge", s);
                isRow(x, s, -1);
            }
        }

        of(29, "SHEETS 0 .. 3 are rows of numbers, or missing");
        RingInSand x = anew();
        for (int s = 0; s < 4; s++) {
            laid(x, s, s % 3, s, s + 4);
        }
        due(1, x, "sheet", 1, -1, 0);
        for (int s = 0; s < 4; s++) {
            due(s == 1 ? NOTHING : 2, x, "seen", s, 0);
        }
        isRow(x, 2, 2, 2, 6);
    }

    private static void sheetZero() {
        of(29, "all 0,");
        RingInSand x = anew();
        laid(x, 0, 2, 7, 8, 9, 10);
        due(1, x, "sheet", 0, 2, 4);
        isRow(x, 0, 2, 0, 0, 0, 0);
        // smaller, then greater: what stood behind isn't there again
        x = anew();
        laid(x, 0, 1, 7, 8, 9, 10);
        due(1, x, "sheet", 0, 1, 1);
        due(OUTSIDE, x, "cell", 0, 1, 5);
        due(1, x, "sheet", 0, 1, 5);
        isRow(x, 0, 1, 0, 0, 0, 0, 0);
        // missing, then there
        x = anew();
        laid(x, 0, 0, 7, 8);
        due(1, x, "sheet", 0, -1, 0);
        due(1, x, "sheet", 0, 0, 2);
        isRow(x, 0, 0, 0, 0);
        x = anew();
        laid(x, 0, 0, 7, 8);
        due(1, x, "sheet", 0, 2, 3);
        isRow(x, 0, 2, 0, 0, 0);
    }

    private static void sheetRefused() {
        of(29, "BAD: no such SHEET, sort; n above 40; -14.");
        changesNothing(Edge::busy, BAD, "sheet", a(-1, 0, 1), a(4, 0, 1), a(MIN, 0, 1), a(MAX, 0, 1), a(0, -2, 1),
                a(0, 3, 1), a(0, MIN, 1), a(0, MAX, 1), a(0, 0, 41), a(1, 1, MAX), a(3, 2, 41));
        changesNothing(Edge::busy, BELOW_ZERO, "sheet", a(0, 0, -1), a(1, 1, MIN), a(2, 2, -1), a(3, 0, -1));
        // BAD goes ahead of -14, for a SHEET that would be missing too
        changesNothing(Edge::busy, BAD, "sheet", a(4, 0, -1), a(-1, 2, MIN), a(0, 3, -1), a(0, -2, MIN), a(4, 3, -1),
                a(4, -1, 0), a(-1, -1, -1), a(4, 3, 41));
    }

    // ---- promise 30

    private static void cellBits() {
        of(30, "Item i of a SHEET becomes v (of bytes, shorts its lowest 8, 16 bits): 1.");
        int[][] rows = {
            // v, and what a byte, a short, an int is then; -2 where that is no CELL
            {0, 0, 0, 0}, {47, 47, 47, 47}, {48, BAD, BAD, BAD}, {127, BAD, BAD, BAD}, {128, BAD, BAD, BAD},
            {255, BAD, BAD, BAD}, {256, 0, BAD, BAD}, {256 + 47, 47, BAD, BAD}, {256 + 48, BAD, BAD, BAD},
            {32767, BAD, BAD, BAD}, {32768, 0, BAD, BAD}, {65535, BAD, BAD, BAD}, {65536, 0, 0, BAD},
            {65536 + 5, 5, 5, BAD}, {-1, BAD, BAD, BAD}, {-128, BAD, BAD, BAD}, {-256, 0, BAD, BAD},
            {-256 + 5, 5, BAD, BAD}, {-65536 + 5, 5, 5, BAD}, {1 << 24, 0, 0, BAD}, {MIN, 0, 0, BAD},
            {MIN + 5, 5, 5, BAD}, {MAX, BAD, BAD, BAD},
        };
        for (int[] row : rows) {
            for (int sort = 0; sort < 3; sort++) {
                RingInSand x = anew();
                due(1, x, "sheet", 2, sort, 1);
                due(1, x, "cell", 2, 0, row[0]);
                isRow(x, 2, sort, row[sort + 1]);
            }
        }
        // with their sign: of bytes 255 is -1, and so no NUMBER of a LOOKER
        for (int sort = 0; sort < 3; sort++) {
            RingInSand x = anew();
            laid(x, 0, sort, 0, 255, 0, 65535, 0, -1, 0, 256 + 9, 0, 65536 + 8);
            due(sort == 0 ? 2 : sort == 1 ? 1 : 0, x, "lookers", 0, sort, 0, 5);
        }
    }

    private static void cellPlaces() {
        of(30, "Item i of a SHEET becomes v");
        RingInSand x = anew();
        due(1, x, "sheet", 3, 1, 40);
        due(1, x, "cell", 3, 0, 5);
        due(1, x, "cell", 3, 39, 6);
        due(1, x, "cell", 3, 20, 7);
        due(1, x, "cell", 3, 20, 8);
        int[] items = new int[40];
        items[0] = 5;
        items[39] = 6;
        items[20] = 8;
        isRow(x, 3, 1, items);
        // of one SHEET alone
        x = anew();
        laid(x, 0, 0, 1, 2);
        laid(x, 1, 0, 3, 4);
        due(1, x, "cell", 1, 0, 9);
        isRow(x, 0, 0, 1, 2);
    }

    private static void cellRefused() {
        of(30, "BAD: no such SHEET; -11; -12.");
        changesNothing(Edge::busy, BAD, "cell", a(-1, 0, 0), a(4, 0, 0), a(MIN, 0, 0), a(MAX, 0, 0));
        changesNothing(Edge::busy, NOTHING, "cell", a(3, 0, 0));
        changesNothing(Edge::busy, OUTSIDE, "cell", a(0, -1, 5), a(0, 4, 5), a(1, 3, 5), a(2, 40, 5), a(0, MIN, 5),
                a(0, MAX, 5));
        // BAD goes ahead of -12, and so does -11
        changesNothing(Edge::busy, BAD, "cell", a(4, -1, 0), a(-1, 40, 0), a(4, MAX, MIN));
        changesNothing(Edge::busy, NOTHING, "cell", a(3, -1, 0), a(3, 40, 0), a(3, MIN, MAX));
        RingInSand x = anew();
        due(1, x, "sheet", 0, 0, 0);
        due(OUTSIDE, x, "cell", 0, 0, 0);
        due(1, x, "sheet", 0, 0, 40);
        due(1, x, "cell", 0, 39, 0);
        due(OUTSIDE, x, "cell", 0, 40, 0);
    }

    // ---- promise 31

    private static RingInSand three() {
        RingInSand x = anew();
        laid(x, 0, 1, 1, 2, 3, 4);
        laid(x, 1, 1, 11, 12, 13);
        laid(x, 2, 2, 21, 22, 23);
        return x;
    }

    /** What is in SHEET 1, or 0, behind a copy that is due. */
    private static void copies(int i, int other, int j, int n, int... items) {
        RingInSand x = three();
        due(n, x, "copy", 0, i, other, j, n);
        isRow(x, other, 1, items);
        x = three();
        due(n, x, "copy", 0, i, other, j, n);
        if (other != 0) {
            isRow(x, 0, 1, 1, 2, 3, 4);
        }
    }

    private static void copyPlaces() {
        of(31, "n numbers of a SHEET, from item i on, come to another one's item j on (as they were): n.");
        copies(0, 1, 0, 1, 1, 12, 13);
        copies(0, 1, 0, 3, 1, 2, 3);
        copies(1, 1, 0, 3, 2, 3, 4);
        copies(3, 1, 2, 1, 11, 12, 4);
        copies(2, 1, 1, 2, 11, 3, 4);
        // none, also just behind the last item
        copies(0, 1, 0, 0, 11, 12, 13);
        copies(4, 1, 3, 0, 11, 12, 13);
        for (int sort = 0; sort < 3; sort++) {
            RingInSand x = anew();
            due(1, x, "sheet", 0, sort, 40);
            due(1, x, "cell", 0, 0, 7);
            due(1, x, "cell", 0, 39, 8);
            due(1, x, "sheet", 3, sort, 40);
            due(40, x, "copy", 0, 0, 3, 0, 40);
            int[] items = new int[40];
            items[0] = 7;
            items[39] = 8;
            isRow(x, 3, sort, items);
        }
        RingInSand x = anew();
        due(1, x, "sheet", 0, 0, 0);
        due(0, x, "copy", 0, 0, 0, 0, 0);
        due(OUTSIDE, x, "copy", 0, 0, 0, 0, 1);
    }

    private static void copyAsTheyWere() {
        of(31, "(as they were)");
        copies(0, 0, 1, 3, 1, 1, 2, 3);
        copies(1, 0, 0, 3, 2, 3, 4, 4);
        copies(0, 0, 0, 4, 1, 2, 3, 4);
        copies(0, 0, 2, 2, 1, 2, 1, 2);
        copies(2, 0, 0, 2, 3, 4, 3, 4);
        // what comes later to the first one doesn't come along
        RingInSand x = three();
        due(3, x, "copy", 0, 0, 1, 0, 3);
        due(1, x, "cell", 0, 0, 40);
        isRow(x, 1, 1, 1, 2, 3);
    }

    private static void copyRefused() {
        of(31, "-12 (also with n below 0).");
        changesNothing(EdgesOfHost::three, OUTSIDE, "copy", a(0, -1, 1, 0, 1), a(0, 0, 1, -1, 1), a(0, 0, 1, 0, -1),
                a(0, 0, 1, 0, 4), a(0, 2, 1, 0, 3), a(0, 4, 1, 0, 1), a(0, 0, 1, 3, 1), a(0, 0, 1, 1, 3),
                a(0, 5, 1, 0, 0), a(0, 0, 1, 4, 0), a(0, -1, 1, 0, 0), a(0, 0, 1, -1, 0));
        changesNothing(EdgesOfHost::three, OUTSIDE, "copy", a(0, MIN, 1, 0, 1), a(0, MAX, 1, 0, 1), a(0, 0, 1, MIN, 1),
                a(0, 0, 1, MAX, 1), a(0, 0, 1, 0, MIN), a(0, 0, 1, 0, MAX), a(0, 1, 1, 0, MAX), a(0, 0, 1, 1, MAX),
                a(0, MAX, 1, MAX, MAX), a(0, MAX, 1, 0, 0), a(0, 4, 1, 3, -1), a(0, 2, 0, 2, -2));
    }

    private static void copyOrder() {
        of(31, "BAD: no such SHEET; -11; -13: they are of unlike sorts;");
        changesNothing(EdgesOfHost::three, BAD, "copy", a(-1, 0, 1, 0, 1), a(4, 0, 1, 0, 1), a(0, 0, -1, 0, 1),
                a(0, 0, 4, 0, 1), a(MIN, 0, MAX, 0, 1));
        changesNothing(EdgesOfHost::three, NOTHING, "copy", a(3, 0, 0, 0, 1), a(0, 0, 3, 0, 1), a(3, 0, 3, 0, 1),
                a(3, 0, 0, 0, 0));
        changesNothing(EdgesOfHost::three, UNLIKE, "copy", a(0, 0, 2, 0, 1), a(2, 0, 0, 0, 1), a(0, 0, 2, 0, 0));
        // BAD goes ahead of -11 and -12
        changesNothing(EdgesOfHost::three, BAD, "copy", a(3, 0, 4, 0, 1), a(4, 0, 3, 0, 1), a(4, -1, 0, 0, 1),
                a(0, 0, -1, 9, -1));
        // -11 goes ahead of -12
        changesNothing(EdgesOfHost::three, NOTHING, "copy", a(3, -1, 0, 0, 1), a(0, 0, 3, 9, 1), a(3, 0, 3, 0, -1));
        // -13 goes ahead of -12
        changesNothing(EdgesOfHost::three, UNLIKE, "copy", a(0, -1, 2, 0, 1), a(2, 0, 0, 9, 1), a(0, 0, 2, 0, -1),
                a(0, 0, 2, 0, 5));
    }

    // ---- promise 32

    private static void lookersTwoByTwo() {
        of(32, "LOOKERS by a SHEET that is taken for one of a sort: from one on, two by two (as of looker()), n of them (0 .. 6):");
        for (int sort = 0; sort < 3; sort++) {
            RingInSand x = anew();
            laid(x, 1, sort, 0, 1, 2, 3, 4, 5, 5, 9, 3, 0, 1, 8, 2);
            due(0, x, "lookers", 1, sort, 0, 0);
            due(1, x, "lookers", 1, sort, 1, 1);
            due(2, x, "taken", 0, 1);
            due(5, x, "lookers", 1, sort, 2, 5);
            int[] kinds = {1, 2, 4, 5, 3, 1};
            int[] numbers = {2, 3, 5, 9, 0, 8};
            for (int i = 0; i < 6; i++) {
                due(numbers[i], x, "taken", i, kinds[i]);
            }
        }
        RingInSand x = anew();
        due(1, x, "sheet", 0, 0, 40);
        due(1, x, "cell", 0, 38, 5);
        due(1, x, "cell", 0, 39, 7);
        due(1, x, "lookers", 0, 0, 38, 1);
        due(7, x, "taken", 0, 5);
        due(5, x, "lookers", 0, 0, 28, 6);
        due(6, x, "count", 0);
        x = anew();
        due(1, x, "sheet", 0, 2, 12);
        due(6, x, "lookers", 0, 2, 0, 6);

        of(32, "n of them (0 .. 6)");
        changesNothing(Edge::busy, BAD, "lookers", a(0, 0, 0, -1), a(0, 0, 0, 7), a(0, 0, 0, MIN), a(0, 0, 0, MAX));
        // of none nothing is asked
        changesNothing(Edge::busy, 0, "lookers", a(0, 0, 0, 0), a(0, 0, 4, 0), a(1, 1, 99, 0), a(2, 2, -1, 0),
                a(2, 2, MIN, 0), a(2, 2, MAX, 0));
    }

    private static void lookersOutside() {
        of(32, "-12: what stood ahead came.");
        int[][] rows = {
            // from, n, how many came all the same
            {0, 3, 2}, {1, 2, 1}, {1, 3, 1}, {2, 2, 1}, {3, 1, 0}, {4, 1, 0}, {5, 1, 0}, {5, 6, 0}, {-1, 1, 0},
            {-1, 6, 0}, {-2, 2, 0}, {MIN, 6, 0}, {MAX, 6, 0}, {MAX - 1, 6, 0}, {MAX - 10, 6, 0},
        };
        for (int[] row : rows) {
            RingInSand x = anew();
            laid(x, 0, 0, 1, 2, 3, 4);
            due(OUTSIDE, x, "lookers", 0, 0, row[0], row[1]);
            due(row[2], x, "count", 0);
        }
        // where none stood ahead all is as it was
        changesNothing(Edge::busy, OUTSIDE, "lookers", a(0, 0, 3, 1), a(0, 0, -1, 1), a(0, 0, 4, 6), a(1, 1, 2, 1),
                a(2, 2, MIN, 6), a(2, 2, MAX, 1));
        // of two the first inside alone: none comes
        RingInSand x = anew();
        laid(x, 0, 1, 1, 2, 3);
        due(OUTSIDE, x, "lookers", 0, 1, 0, 2);
        due(1, x, "count", 0);
        due(2, x, "taken", 0, 1);
        due(NOTHING, x, "taken", 1, 0);
        due(1, x, "sheet", 0, 1, 0);
        due(OUTSIDE, x, "lookers", 0, 1, 0, 1);
        due(0, x, "lookers", 0, 1, 0, 0);
        // an item outside is -12, whether the other one is bad, or there is no room
        laid(x, 0, 1, 9);
        due(OUTSIDE, x, "lookers", 0, 1, 0, 1);
        for (int i = 1; i < 6; i++) {
            due(i, x, "looker", 0, 0);
        }
        due(OUTSIDE, x, "lookers", 0, 1, 0, 1);
        due(6, x, "count", 0);
    }

    private static void lookersLeftOut() {
        of(32, "how many came (others are left out).");
        RingInSand x = anew();
        laid(x, 0, 2, 6, 0, 0, 10, -1, 0, 0, -1, 5, 9, MAX, MIN);
        due(1, x, "lookers", 0, 2, 0, 6);
        due(1, x, "count", 0);
        due(9, x, "taken", 0, 5);
        due(0, x, "lookers", 0, 2, 0, 4);
        changesNothing(Edge::busy, 0, "lookers", a(2, 2, 0, 2), a(2, 2, 2, 1), a(1, 1, 0, 1));
        // what has no room is left out, too
        x = anew();
        laid(x, 0, 0, 0, 1, 6, 0, 0, 2, 0, 3);
        for (int i = 0; i < 4; i++) {
            due(i, x, "looker", 0, 9);
        }
        due(2, x, "lookers", 0, 0, 0, 4);
        due(1, x, "taken", 4, 0);
        due(2, x, "taken", 5, 0);
        due(0, x, "lookers", 0, 0, 0, 4);
        due(6, x, "count", 0);
        // and -12 comes behind it all the same
        due(OUTSIDE, x, "lookers", 0, 0, 2, 4);
        x = anew();
        laid(x, 0, 0, 9, 9, 3, 3);
        due(OUTSIDE, x, "lookers", 0, 0, 0, 3);
        due(1, x, "count", 0);
        due(3, x, "taken", 0, 3);
    }

    private static void lookersRefused() {
        of(32, "BAD: no such SHEET, sort, n; -13; -11 (n 0, too);");
        changesNothing(Edge::busy, BAD, "lookers", a(-1, 0, 0, 1), a(4, 0, 0, 1), a(MIN, 0, 0, 1), a(MAX, 0, 0, 1),
                a(0, -1, 0, 1), a(0, 3, 0, 1), a(0, MIN, 0, 1), a(0, MAX, 0, 1), a(0, 0, 0, 7), a(0, 0, 0, -1));
        changesNothing(Edge::busy, UNLIKE, "lookers", a(0, 1, 0, 1), a(0, 2, 0, 1), a(1, 0, 0, 1), a(1, 2, 0, 1),
                a(2, 0, 0, 1), a(2, 1, 0, 1), a(0, 1, 0, 0));
        changesNothing(Edge::busy, NOTHING, "lookers", a(3, 0, 0, 1), a(3, 1, 0, 6), a(3, 2, 0, 0), a(3, 0, 0, 0));
        // BAD goes ahead of -13, -11, -12
        changesNothing(Edge::busy, BAD, "lookers", a(0, 1, 0, 7), a(3, 0, 0, 7), a(3, 3, 0, 1), a(3, -1, 0, 0),
                a(0, 0, 99, 7), a(4, 0, -1, 1), a(0, 3, 99, 1));
        // -13 and -11 go ahead of -12
        changesNothing(Edge::busy, UNLIKE, "lookers", a(0, 1, 99, 1), a(1, 2, -1, 1), a(2, 0, MAX, 6));
        changesNothing(Edge::busy, NOTHING, "lookers", a(3, 0, 99, 1), a(3, 1, -1, 6), a(3, 2, MIN, 0));
        // a SHEET that was of a sort and is missing is of none
        RingInSand x = anew();
        laid(x, 0, 0, 1, 1);
        due(UNLIKE, x, "lookers", 0, 1, 0, 1);
        due(1, x, "sheet", 0, -1, 0);
        for (int sort = 0; sort < 3; sort++) {
            due(NOTHING, x, "lookers", 0, sort, 0, 0);
        }
    }

    // ---- promise 33

    private static void takenUnder() {
        of(33, "A LOOKER taken for one of KIND k (0 .. 5), or one under that one (also by others between): the NUMBER.");
        String[] under = {"100000", "110000", "111000", "100100", "110010", "100101"};
        int[] numbers = {0, 9, 1, 8, 9, 0};
        RingInSand x = anew();
        for (int kind = 0; kind < 6; kind++) {
            due(kind, x, "looker", kind, numbers[kind]);
        }
        for (int kind = 0; kind < 6; kind++) {
            for (int k = 0; k < 6; k++) {
                due(under[kind].charAt(k) == '1' ? numbers[kind] : UNLIKE, x, "taken", kind, k);
            }
        }
    }

    private static void takenRefused() {
        of(33, "BAD: k; -11: no such LOOKER; -13.");
        changesNothing(Edge::busy, BAD, "taken", a(0, -1), a(0, 6), a(2, MIN), a(2, MAX));
        changesNothing(Edge::busy, NOTHING, "taken", a(-1, 0), a(3, 0), a(6, 5), a(MIN, 0), a(MAX, 5));
        changesNothing(Edge::busy, UNLIKE, "taken", a(0, 1), a(0, 5), a(1, 3), a(1, 4), a(2, 1), a(2, 4));
        changesNothing(Edge::busy, "taken", a(0, 0), a(1, 1), a(2, 3));
        // BAD goes ahead of -11, which goes ahead of -13
        changesNothing(Edge::busy, BAD, "taken", a(3, -1), a(-1, 6), a(6, MAX), a(MIN, MIN));
        changesNothing(Edge::busy, NOTHING, "taken", a(3, 5), a(-1, 5));
        due(NOTHING, anew(), "taken", 0, 0);
        due(BAD, anew(), "taken", 0, 6);
    }

    // ---- all promises

    private static final Object[][] LAST = {
        {2, "set", a(0, 3, 7)}, {3, "told", a(20, 2)}, {4, "looker", a(5, 9)}, {5, "asks", a(1, 3, 4)}, {6, "feed", a(255)},
        {7, "text", a()}, {8, "force", a(0)}, {9, "look", a(1, 3)}, {10, "next", a(2)}, {11, "plan", a(20, 0)},
        {12, "planned", a(2)}, {13, "search", a()}, {14, "giveUp", a(10)}, {15, "likely", a(0, 1)}, {16, "here", a(0)},
        {17, "most", a(1)}, {18, "under", a(5)}, {19, "drowned", a(0)}, {20, "seen", a(0, 9999)}, {21, "crowd", a(3, 8, 9)},
        {22, "judge", a(0)}, {23, "found", a(0, 0)}, {24, "drawn", a(5)}, {25, "foundBy", a(5, 20)}, {26, "image", a()},
        {27, "back", a()}, {28, "count", a(7)}, {29, "sheet", a(0, 2, 40)}, {30, "cell", a(0, 0, 5)},
        {31, "copy", a(0, 0, 0, 1, 2)}, {32, "lookers", a(0, 0, 2, 1)}, {33, "taken", a(2, 3)},
    };

    /** The call that is the 512th answers as it does earlier. */
    private static void lastCalls() {
        for (Object[] row : LAST) {
            int promise = (Integer) row[0];
            String method = (String) row[1];
            int[] numbers = (int[]) row[2];
            of(promise, "An object is used for at most 512 calls after it has been made;");
            RingInSand early = busy();
            RingInSand late = busy();
            while (calls(late) < MOST_CALLS - 1) {
                due(1047, late, "told", 47, 0);
            }
            long want = call(early, method, numbers);
            due(want, late, method, numbers);
            holds("it was the 512th", calls(late) == MOST_CALLS);
        }
    }
}
