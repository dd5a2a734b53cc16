/** Boundaries of promises 1 to 5: a new object, set, told, looker, asks. */
final class EdgesOfBeach extends Edge {
    private static final int[] OUT_OF_CELLS = {-1, 48, MIN, MAX};

    private EdgesOfBeach() {
    }

    static void all() {
        newObject();
        firstRule();
        numbers();
        setWhat();
        setBounds();
        setRefused();
        toldWhat();
        toldNow();
        toldDeep();
        toldSeaAndShine();
        toldSun();
        toldNames();
        toldRefused();
        lookerBounds();
        lookerRefused();
        findsEyesAndHands();
        findsOthers();
        findsBounds();
        takesAndStamps();
        gains();
        asksGood();
        asksRefused();
    }

    // ---- promise 1

    private static void newObject() {
        of(1, "No ODDS, no LOOKERS.");
        RingInSand x = anew();
        for (int c = 0; c < CELLS; c++) {
            due(0, x, "told", c, 0);
        }
        due(0, x, "most", 1);
        due(0, x, "count", 0);
        for (int looker = 0; looker < 6; looker++) {
            due(NOTHING, x, "taken", looker, 0);
        }
        // what one object was told, another doesn't know
        String[] views = new String[VIEWS];
        for (int v = 0; v < VIEWS; v++) {
            views[v] = view(anew(), v);
        }
        for (int v = 0; v < VIEWS; v++) {
            view(busy(), v);
            holds("a new object is as new", views[v].equals(view(anew(), v)));
        }

        of(1, "Each has ODDS (0 .. 999999; 0 at first), TREADS (0 .. 99; 0 at first).");
        x = anew();
        for (int c = 0; c < CELLS; c++) {
            due(0, x, "set", 0, c, 0);
            due(0, x, "set", 1, c, 0);
        }
        due(0, x, "count", 7);

        of(1, "BAG: ODDS that it is on no CELL (0 .. 999999; 0 at first).");
        x = anew();
        due(0, x, "count", 1);
        due(0, x, "set", 2, 0, 5);

        of(1, "THE HOUR (0 .. 23; 12 at first), MINUTES of it (0 .. 59; 0 at first).");
        x = anew();
        due(12, x, "count", 2);
        due(0, x, "count", 3);

        of(1, "SHEETS 0 .. 3 are rows of numbers, or missing (as all are at first): of sort 0 bytes, 1 shorts, 2 ints.");
        for (int s = 0; s < 4; s++) {
            x = anew();
            due(NOTHING, x, "cell", s, 0, 0);
            due(NOTHING, x, "seen", s, 0);
            due(NOTHING, x, "judge", s);
        }

        of(1, "NONE is -1; NO, where a long is answered, -4611686018427387904.");
        Due.is("NONE", RingInSand.NONE, NONE);
        Due.is("NO", RingInSand.NO, NO);
        x = anew();
        due(-1, x, "next", 0);
        due(-1, x, "planned", 0);
        due(-1, x, "search");
        due(-1, x, "most", 0);
        due(-1, x, "drawn", 0);
        due(-4611686018427387904L, x, "likely", 0, 0);
        due(-4611686018427387904L, x, "here", 0);
        due(-4611686018427387904L, x, "found", 0, 0);
        due(STATE, x, "back");
    }

    private static void firstRule() {
        of(1, "TEXT 0, at first THE RULE, is: deep trod * 1 + y ; sea 4 < y and 17 < hour ; shine sun - depth ;");
        int[] hours = {0, 3, 4, 12, 13, 14, 17, 18, 22, 23};
        int[] treads = {0, 1, 94, 95, 99};
        for (int hour : hours) {
            RingInSand x = anew();
            due(0, x, "count", 6);
            due(12, x, "set", 3, 0, hour);
            for (int trod : treads) {
                for (int y = 0; y < 6; y++) {
                    int c = 8 * y + y;
                    int deep = Math.min(99, trod + y);
                    int sun = Math.max(0, 100 - 10 * Math.abs(hour - 13));
                    call(x, "set", 1, c, trod);
                    due(deep, x, "told", c, 2);
                    due(y == 5 && hour > 17 ? 1 : 0, x, "told", c, 3);
                    due(Math.max(0, sun - deep), x, "told", c, 4);
                }
            }
        }
    }

    // ---- promise 2

    private static void numbers() {
        of(2, "CELLS (y, x), y 0 .. 5, x 0 .. 7, as numbers 8 times y, and x.");
        RingInSand x = ruled("deep y*10+x" + REST);
        for (int y = 0; y < 6; y++) {
            for (int column = 0; column < 8; column++) {
                due(y * 10 + column, x, "told", 8 * y + column, 2);
                due(0, x, "set", 0, 8 * y + column, 1);
            }
        }
        for (int of : OUT_OF_CELLS) {
            due(BAD, x, "set", 0, of, 1);
            due(BAD, x, "set", 1, of, 1);
            due(BAD, x, "told", of, 0);
        }
    }

    private static void setWhat() {
        of(2, "ODDS (what 0), TREADS (1) of a CELL, BAG (2), THE HOUR (3), MINUTES (4;");
        RingInSand x = anew();
        due(0, x, "set", 0, 9, 11);
        due(0, x, "set", 1, 9, 12);
        due(0, x, "set", 2, 9, 13);
        due(12, x, "set", 3, 9, 14);
        due(0, x, "set", 4, 9, 15);
        due(11, x, "told", 9, 0);
        due(12, x, "told", 9, 1);
        due(13, x, "count", 1);
        due(14, x, "count", 2);
        due(15, x, "count", 3);
        due(24, x, "most", 1);
        due(12, x, "count", 7);

        of(2, "by 2 .. 4 of does not matter)");
        x = anew();
        int[] ofs = {-1, 0, 47, 48, MIN, MAX};
        for (int i = 0; i < ofs.length; i++) {
            due(i, x, "set", 2, ofs[i], i + 1);
            due(i == 0 ? 12 : i, x, "set", 3, ofs[i], i + 1);
            due(i, x, "set", 4, ofs[i], i + 1);
        }
        due(0, x, "count", 7);
        due(6, x, "most", 1);

        of(2, "becomes v: what it was.");
        x = anew();
        for (int what = 0; what < 5; what++) {
            due(what == 3 ? 12 : 0, x, "set", what, 47, 7);
            due(7, x, "set", what, 47, 7);
            due(7, x, "set", what, 47, 0);
            due(0, x, "set", what, 47, 8);
        }
    }

    /** From 0 to most is taken, what is beyond isn't, and what was stays. */
    private static void setTakes(int what, int of, int most) {
        RingInSand x = anew();
        due(what == 3 ? 12 : 0, x, "set", what, of, 0);
        due(0, x, "set", what, of, most);
        due(most, x, "set", what, of, most);
        int[] beyond = {-1, most + 1, MIN, MAX};
        for (int v : beyond) {
            due(BAD, x, "set", what, of, v);
        }
        due(most, x, "set", what, of, 0);
        for (int v : beyond) {
            due(BAD, x, "set", what, of, v);
        }
        due(0, x, "set", what, of, 0);
    }

    private static void setBounds() {
        of(2, "Each has ODDS (0 .. 999999;");
        setTakes(0, 0, 999999);
        setTakes(0, 47, 999999);

        of(2, "TREADS (0 .. 99;");
        setTakes(1, 0, 99);
        setTakes(1, 47, 99);

        of(2, "BAG: ODDS that it is on no CELL (0 .. 999999;");
        setTakes(2, 0, 999999);

        of(2, "THE HOUR (0 .. 23;");
        setTakes(3, 0, 23);

        of(2, "MINUTES of it (0 .. 59;");
        setTakes(4, 0, 59);
    }

    private static void setRefused() {
        of(2, "BAD.");
        changesNothing(Edge::busy, BAD, "set", a(-1, 0, 0), a(5, 0, 0), a(MIN, 0, 0), a(MAX, 0, 0), a(0, -1, 5),
                a(0, 48, 5), a(0, 3, -1), a(0, 3, 1000000), a(1, -1, 5), a(1, 48, 5), a(1, 3, -1), a(1, 3, 100),
                a(2, 0, -1), a(2, 0, 1000000), a(3, 0, -1), a(3, 0, 24), a(4, 0, -1), a(4, 0, 60),
                // two reasons at once
                a(5, 48, -1), a(-1, -1, -1), a(0, 48, -1), a(1, -1, 100), a(2, 48, -1), a(4, -1, 60));

        of(2, "BAD (-2: a number is none such or not as told), STATE (-3), FULL (-4);");
        Due.is("BAD", RingInSand.BAD, -2);
        Due.is("STATE", RingInSand.STATE, -3);
        Due.is("FULL", RingInSand.FULL, -4);
        due(-2, anew(), "set", 5, 0, 0);
        due(-3, anew(), "back");
        RingInSand x = anew();
        for (int i = 0; i < 6; i++) {
            due(i, x, "looker", 0, 0);
        }
        due(-4, x, "looker", 0, 0);
    }

    // ---- promise 3

    private static void toldWhat() {
        of(3, "Of a CELL: 0 ODDS, 1 TREADS, 2 what deep tells now, 3 whether it is under water now, 4 what shine tells now.");
        RingInSand x = ruled("deep trod+1;sea hour=12;shine hour+trod;");
        due(0, x, "set", 0, 8, 999999);
        due(0, x, "set", 1, 8, 98);
        due(999999, x, "told", 8, 0);
        due(98, x, "told", 8, 1);
        due(99, x, "told", 8, 2);
        due(1, x, "told", 8, 3);
        due(100, x, "told", 8, 4);
        due(12, x, "set", 3, 0, 0);
        due(99, x, "told", 8, 2);
        due(0, x, "told", 8, 3);
        due(98, x, "told", 8, 4);
        due(98, x, "set", 1, 8, 0);
        due(1, x, "told", 8, 2);
        due(0, x, "told", 8, 4);
        due(1, x, "force", 0);
        due(1, x, "told", 8, 2);
        due(0, x, "told", 7, 2);
        // MINUTES and BAG are no part of it
        due(0, x, "set", 4, 0, 59);
        due(0, x, "set", 2, 0, 999999);
        due(1, x, "told", 8, 2);
        due(999999, x, "told", 8, 0);
    }

    /** What was told for one RULE, HOUR, TREADS is not what is told for those beside it. */
    private static void toldNow() {
        of(3, "what deep tells now, 3 whether it is under water now, 4 what shine tells now.");
        int[] treads = {0, 1, 2, 97, 98, 99};
        int[] hours = {0, 1, 22, 23};
        for (int hour : hours) {
            for (int trod : treads) {
                toldOnBothSides(trod, hour);
            }
        }
        // what is told first of all
        int[] some = {0, 1, 2, 99};
        for (int hour = 0; hour < 24; hour++) {
            for (int trod : some) {
                RingInSand x = anew();
                due(12, x, "set", 3, 0, hour);
                due(0, x, "set", 1, 9, trod);
                due(Math.min(99, trod + 1), x, "told", 9, 2);
            }
        }
    }

    /** Each of those beside it, and between two of them the one itself. */
    private static void toldOnBothSides(int trod, int hour) {
        RingInSand x = fed(anew(), "deep 99-trod;sea hour<trod;shine hour+1;");
        due(1, x, "text");
        int[] byRule = {0, 1};
        int[] byTreads = {trod - 1, trod, trod + 1, 0, 99};
        int[] byHour = {hour - 1, hour, hour + 1, 0, 23};
        for (int rule : byRule) {
            for (int t : byTreads) {
                for (int h : byHour) {
                    if (t >= 0 && t <= 99 && h >= 0 && h <= 23 && calls(x) < MOST_CALLS - 20) {
                        tellsNow(x, 1, trod, hour, t % 3);
                        tellsNow(x, rule, t, h, h % 3);
                    }
                }
            }
        }
    }

    private static void tellsNow(RingInSand x, int rule, int trod, int hour, int which) {
        call(x, "force", rule);
        call(x, "set", 1, 0, trod);
        call(x, "set", 3, 0, hour);
        int sun = Math.max(0, 100 - 10 * Math.abs(hour - 13));
        int[] first = {trod, 0, Math.max(0, sun - trod)};
        int[] second = {99 - trod, hour < trod ? 1 : 0, hour + 1};
        due(rule == 0 ? first[which] : second[which], x, "told", 0, 2 + which);
    }

    private static final String LEAST_INT = "4096*4096*128";

    private static void tells(int want, int what, String letters) {
        due(want, ruled(letters), "told", 0, what);
    }

    private static void toldDeep() {
        of(3, "deep: how deep it lies (0 .. 99, else the bound).");
        tells(0, 2, "deep 0-1" + REST);
        tells(0, 2, "deep 0" + REST);
        tells(1, 2, "deep 1" + REST);
        tells(98, 2, "deep 98" + REST);
        tells(99, 2, "deep 99" + REST);
        tells(99, 2, "deep 100" + REST);
        tells(0, 2, "deep " + LEAST_INT + REST);
        tells(99, 2, "deep " + LEAST_INT + "-1" + REST);
    }

    private static void toldSeaAndShine() {
        of(3, "sea: whether it is under water (not 0).");
        tells(0, 3, "deep 0;sea 0;shine 0;");
        tells(1, 3, "deep 0;sea 1;shine 0;");
        tells(1, 3, "deep 0;sea 2;shine 0;");
        tells(1, 3, "deep 0;sea 0-1;shine 0;");
        tells(1, 3, "deep 0;sea " + LEAST_INT + ";shine 0;");
        tells(1, 3, "deep 0;sea " + LEAST_INT + "-1;shine 0;");
        tells(0, 3, "deep 0;sea 4096*4096*256;shine 0;");

        of(3, "shine: what EYES have for sun (0 .. 100, else the bound).");
        tells(0, 4, "deep 0;sea 0;shine 0-1;");
        tells(0, 4, "deep 0;sea 0;shine 0;");
        tells(1, 4, "deep 0;sea 0;shine 1;");
        tells(99, 4, "deep 0;sea 0;shine 99;");
        tells(100, 4, "deep 0;sea 0;shine 100;");
        tells(100, 4, "deep 0;sea 0;shine 101;");
        tells(0, 4, "deep 0;sea 0;shine " + LEAST_INT + ";");
        tells(100, 4, "deep 0;sea 0;shine " + LEAST_INT + "-1;");
        RingInSand x = ruled("deep 0;sea 0;shine 101;");
        due(0, x, "looker", 0, 0);
        due(100, x, "asks", 0, 0, 0);
    }

    private static void toldSun() {
        of(3, "sun: 100, less 10 times how far THE HOUR is from 13 (0 at least).");
        RingInSand x = ruled("deep sun;sea sun=0;shine sun;");
        int[] suns = {0, 0, 0, 0, 10, 20, 30, 40, 50, 60, 70, 80, 90, 100, 90, 80, 70, 60, 50, 40, 30, 20, 10, 0};
        for (int hour = 0; hour < 24; hour++) {
            call(x, "set", 3, 0, hour);
            due(Math.min(99, suns[hour]), x, "told", 0, 2);
            due(suns[hour] == 0 ? 1 : 0, x, "told", 0, 3);
            due(suns[hour], x, "told", 0, 4);
        }
    }

    private static void toldNames() {
        of(3, "Of a CELL: y, x; trod: TREADS; hour: THE HOUR;");
        RingInSand x = ruled("deep y*8+x;sea trod=99;shine hour;");
        for (int c = 0; c < CELLS; c++) {
            due(c, x, "told", c, 2);
        }
        due(0, x, "set", 1, 47, 98);
        due(0, x, "told", 47, 3);
        due(98, x, "set", 1, 47, 99);
        due(1, x, "told", 47, 3);
        due(0, x, "told", 46, 3);
        due(12, x, "set", 3, 0, 23);
        due(23, x, "told", 0, 4);
        due(23, x, "set", 3, 0, 0);
        due(0, x, "told", 0, 4);

        of(3, "depth: of shine what deep tells, else 0;");
        tells(0, 2, "deep depth;sea 0;shine 0;");
        tells(5, 2, "deep depth+5;sea 0;shine 0;");
        tells(0, 3, "deep 5;sea depth;shine 0;");
        tells(5, 4, "deep 5;sea 0;shine depth;");
        // what deep tells is within its bounds
        tells(99, 4, "deep 100;sea 0;shine depth;");
        tells(50, 4, "deep 0-1;sea 0;shine depth+50;");
        x = ruled("deep depth+5;sea depth;shine depth;");
        for (int i = 0; i < 3; i++) {
            due(5, x, "told", i % 2, 2);
            due(0, x, "told", i % 2, 3);
            due(5, x, "told", i % 2, 4);
            due(0, x, "under", 0);
        }
    }

    private static void toldRefused() {
        of(3, "what shine tells now. BAD.");
        changesNothing(Edge::busy, BAD, "told", a(-1, 0), a(48, 0), a(MIN, 0), a(MAX, 0), a(3, -1), a(3, 5), a(3, MIN),
                a(3, MAX), a(48, 5), a(-1, -1));
        RingInSand x = busy();
        due(1000, x, "told", 0, 0);
        due(1047, x, "told", 47, 0);
        due(1, x, "told", 47, 3);
        due(50, x, "told", 47, 4);
        changesNothing(Edge::busy, "told", a(0, 0), a(20, 1), a(20, 2), a(47, 3), a(47, 4));
    }

    // ---- promise 4

    private static void lookerBounds() {
        of(4, "LOOKERS (6 at most, numbered from 0) have a KIND: 0 EYES, 1 HANDS under EYES, 2 SIEVE under HANDS,"
                + " 3 PLATE under EYES, 4 SPADE under HANDS, 5 LAD under PLATE; a NUMBER (0 .. 9).");
        RingInSand x = anew();
        int[] numbers = {0, 9, 1, 8, 0, 9};
        for (int kind = 0; kind < 6; kind++) {
            due(kind, x, "count", 0);
            due(kind, x, "looker", kind, numbers[kind]);
            due(numbers[kind], x, "taken", kind, kind);
        }
        due(6, x, "count", 0);
        due(FULL, x, "looker", 0, 0);
        due(6, x, "count", 0);
        int[] beyond = {-1, 10, MIN, MAX};
        for (int number : beyond) {
            due(BAD, anew(), "looker", 0, number);
            due(BAD, anew(), "looker", 5, number);
        }
        int[] kinds = {-1, 6, MIN, MAX};
        for (int kind : kinds) {
            due(BAD, anew(), "looker", kind, 0);
        }

        of(4, "A LOOKER: the number.");
        x = anew();
        due(BAD, x, "looker", 6, 0);
        due(0, x, "looker", 5, 9);
        due(BAD, x, "looker", 5, 10);
        due(1, x, "looker", 5, 9);
        due(2, x, "looker", 0, 0);
        // LOOKERS that came by a SHEET are numbered with them
        laid(x, 0, 0, 1, 1);
        due(1, x, "lookers", 0, 0, 0, 1);
        due(4, x, "looker", 0, 0);
    }

    private static RingInSand fullParty() {
        RingInSand x = busy();
        for (int i = 3; i < 6; i++) {
            due(i, x, "looker", i, i);
        }
        return x;
    }

    private static void lookerRefused() {
        of(4, "BAD; FULL.");
        changesNothing(Edge::busy, BAD, "looker", a(-1, 0), a(6, 0), a(0, -1), a(0, 10), a(6, 10), a(MIN, MAX));
        changesNothing(EdgesOfBeach::fullParty, FULL, "looker", a(0, 0), a(5, 9));
        // BAD goes ahead of FULL
        changesNothing(EdgesOfBeach::fullParty, BAD, "looker", a(-1, 0), a(6, 0), a(0, -1), a(0, 10));
    }

    // ---- promise 5

    /** GOOD of a LOOKER where it lies so deep and shine is s. */
    private static void finds(int want, int kind, int number, int depth, int s) {
        RingInSand x = ruled("deep trod;sea 0;shine " + s + ";");
        due(0, x, "looker", kind, number);
        due(0, x, "set", 1, 13, depth);
        due(want, x, "asks", 0, 13, 0);
    }

    private static void findsEyesAndHands() {
        of(5, "FINDS (how many of a hundred, if it lies there so deep, the sun being s): EYES: s, less 20 times depth;");
        finds(100, 0, 0, 0, 100);
        finds(100, 0, 9, 0, 100);
        finds(0, 0, 0, 0, 0);
        finds(1, 0, 0, 0, 1);
        finds(20, 0, 0, 4, 100);
        finds(1, 0, 0, 4, 81);
        finds(0, 0, 0, 4, 80);
        finds(0, 0, 0, 4, 79);
        finds(0, 0, 0, 5, 100);
        finds(0, 0, 0, 6, 100);
        finds(0, 0, 0, 99, 100);

        of(5, "HANDS: 60 and NUMBER, less 6 times depth;");
        finds(60, 1, 0, 0, 0);
        finds(69, 1, 9, 0, 0);
        finds(69, 1, 9, 0, 100);
        finds(6, 1, 0, 9, 0);
        finds(0, 1, 0, 10, 0);
        finds(0, 1, 0, 11, 0);
        finds(3, 1, 9, 11, 0);
        finds(0, 1, 9, 12, 0);
        finds(0, 1, 9, 99, 0);
    }

    private static void findsOthers() {
        of(5, "SIEVE: 30 more than HANDS;");
        finds(90, 2, 0, 0, 0);
        finds(99, 2, 9, 0, 0);
        finds(6, 2, 0, 14, 0);
        finds(0, 2, 0, 15, 0);
        finds(0, 2, 0, 16, 0);
        finds(3, 2, 9, 16, 0);
        finds(0, 2, 9, 99, 0);

        of(5, "PLATE: 70 less 2 times depth;");
        finds(70, 3, 0, 0, 0);
        finds(70, 3, 9, 0, 100);
        finds(2, 3, 0, 34, 0);
        finds(0, 3, 0, 35, 0);
        finds(0, 3, 0, 36, 0);
        finds(0, 3, 9, 99, 0);

        of(5, "SPADE: half (cut) of HANDS, and 5 times depth more (that whole);");
        finds(30, 4, 0, 0, 0);
        finds(30, 4, 1, 0, 0);
        finds(34, 4, 9, 0, 0);
        // 54 and 5 whole 5; 63 less 6 are 57, half 28
        finds(32, 4, 0, 1, 0);
        finds(33, 4, 3, 1, 0);
        finds(50, 4, 0, 10, 0);

        of(5, "LAD: NUMBER times 3 less than a PLATE.");
        finds(70, 5, 0, 0, 0);
        finds(67, 5, 1, 0, 0);
        finds(43, 5, 9, 0, 0);
        finds(1, 5, 9, 21, 0);
        finds(0, 5, 9, 22, 0);
        finds(2, 5, 0, 34, 0);
        finds(0, 5, 0, 35, 0);
        finds(0, 5, 9, 99, 0);
    }

    private static void findsBounds() {
        of(5, "Quotients are cut toward 0.");
        // HANDS of 3, 11 deep, are -3: half is -1; of 5 they are -1: half is 0
        finds(54, 4, 3, 11, 0);
        finds(55, 4, 5, 11, 0);
        finds(55, 4, 7, 11, 0);
        finds(53, 4, 1, 11, 0);

        of(5, "(FINDS 0 .. 100, TAKES 1 at least, STAMPS 0 at least, in the end.)");
        // in the end alone: HANDS of 0, 11 deep, are -6 for a SIEVE, 20 deep -60 for a SPADE
        finds(24, 2, 0, 11, 0);
        finds(70, 4, 0, 20, 0);
        finds(98, 4, 0, 34, 0);
        finds(100, 4, 0, 35, 0);
        finds(100, 4, 0, 36, 0);
        finds(100, 4, 9, 99, 0);
        finds(0, 0, 0, 5, 99);
        finds(100, 0, 0, 0, 100);
        RingInSand x = anew();
        for (int kind = 0; kind < 6; kind++) {
            due(kind, x, "looker", kind, 0);
            holds("TAKES 1 at least", call(x, "asks", kind, 0, 1) >= 1);
            holds("STAMPS 0 at least", call(x, "asks", kind, 0, 2) >= 0);
        }
    }

    private static void takesAndStamps() {
        of(5, "TAKES (minutes for a CELL): EYES: 2; HANDS: 4 more than EYES; SIEVE: NUMBER more than HANDS; PLATE: 1 more"
                + " than EYES; SPADE: twice HANDS; LAD: NUMBER more than a PLATE.");
        int[][] takes = {{2, 6, 6, 3, 12, 3}, {2, 6, 15, 3, 12, 12}};
        int[][] stamps = {{2, 1, 0, 2, 1, 2}, {2, 1, 0, 2, 1, 11}};
        askAll(1, 0, takes[0]);
        askAll(1, 9, takes[1]);

        of(5, "STAMPS (TREADS come to a CELL in which one has looked): EYES: 2; HANDS: 1 less than EYES; SIEVE: 0;"
                + " PLATE as EYES; SPADE as HANDS; LAD: NUMBER more than a PLATE.");
        askAll(2, 0, stamps[0]);
        askAll(2, 9, stamps[1]);
    }

    private static void askAll(int what, int number, int[] dues) {
        RingInSand x = anew();
        for (int kind = 0; kind < 6; kind++) {
            due(kind, x, "looker", kind, number);
            due(dues[kind], x, "asks", kind, 0, what);
            due(dues[kind], x, "asks", kind, 47, what);
        }
    }

    /** EYES whose GOOD in a CELL is its TREADS. */
    private static RingInSand goodOfTreads(int odds, int good) {
        RingInSand x = ruled("deep 0;sea 0;shine trod;");
        due(0, x, "looker", 0, 0);
        due(0, x, "set", 0, 9, odds);
        due(0, x, "set", 1, 9, good);
        return x;
    }

    private static void gains() {
        of(5, "GAIN of a LOOKER in a CELL: ODDS times GOOD by 100 (cut); PER MINUTE: GAIN by TAKES (cut).");
        int[][] rows = {
            // ODDS, GOOD, GAIN, PER MINUTE
            {0, 99, 0, 0}, {1, 0, 0, 0}, {1, 99, 0, 0}, {99, 1, 0, 0}, {100, 1, 1, 0}, {199, 1, 1, 0}, {200, 1, 2, 1},
            {2, 50, 1, 0}, {6, 50, 3, 1}, {101, 99, 99, 49}, {999999, 1, 9999, 4999}, {999999, 99, 989999, 494999},
        };
        for (int[] row : rows) {
            RingInSand x = goodOfTreads(row[0], row[1]);
            due(row[1], x, "asks", 0, 9, 0);
            due(row[2], x, "asks", 0, 9, 3);
            due(row[3], x, "asks", 0, 9, 4);
        }
        RingInSand x = ruled("deep 0;sea 0;shine 100;");
        due(0, x, "looker", 0, 0);
        due(0, x, "set", 0, 9, 999999);
        due(999999, x, "asks", 0, 9, 3);
        due(499999, x, "asks", 0, 9, 4);
    }

    private static void asksGood() {
        of(5, "GOOD of a LOOKER in a CELL: FINDS by what deep, shine tell there now (0, if it is under water).");
        RingInSand x = anew();
        for (int kind = 0; kind < 6; kind++) {
            due(kind, x, "looker", kind, 0);
        }
        due(0, x, "set", 0, 40, 10000);
        due(0, x, "set", 0, 39, 10000);
        due(12, x, "set", 3, 0, 17);
        int[] goods = {0, 30, 60, 60, 40, 60};
        int[] takes = {2, 6, 6, 3, 12, 3};
        int[] stamps = {2, 1, 0, 2, 1, 2};
        for (int looker = 0; looker < 6; looker++) {
            due(goods[looker], x, "asks", looker, 40, 0);
            due(100 * goods[looker], x, "asks", looker, 40, 3);
        }
        due(17, x, "set", 3, 0, 18);
        for (int looker = 0; looker < 6; looker++) {
            due(0, x, "asks", looker, 40, 0);
            due(takes[looker], x, "asks", looker, 40, 1);
            due(stamps[looker], x, "asks", looker, 40, 2);
            due(0, x, "asks", looker, 40, 3);
            due(0, x, "asks", looker, 40, 4);
        }
        due(36, x, "asks", 1, 39, 0);

        of(5, "Of a LOOKER in a CELL now: 0 GOOD, 1 TAKES, 2 STAMPS, 3 GAIN, 4 PER MINUTE.");
        x = anew();
        due(0, x, "looker", 5, 4);
        due(0, x, "set", 0, 8, 1000);
        due(56, x, "asks", 0, 8, 0);
        due(7, x, "asks", 0, 8, 1);
        due(6, x, "asks", 0, 8, 2);
        due(560, x, "asks", 0, 8, 3);
        due(80, x, "asks", 0, 8, 4);
        due(0, x, "set", 1, 8, 10);
        due(36, x, "asks", 0, 8, 0);
        due(360, x, "asks", 0, 8, 3);
        due(51, x, "asks", 0, 8, 4);
        due(1000, x, "set", 0, 8, 0);
        due(0, x, "asks", 0, 8, 3);
    }

    private static void asksRefused() {
        of(5, "3 GAIN, 4 PER MINUTE. BAD.");
        changesNothing(Edge::busy, BAD, "asks", a(-1, 0, 0), a(3, 0, 0), a(6, 0, 0), a(MIN, 0, 0), a(MAX, 0, 0),
                a(0, -1, 0), a(0, 48, 0), a(0, MIN, 0), a(0, MAX, 0), a(0, 0, -1), a(0, 0, 5), a(0, 0, MIN),
                a(0, 0, MAX), a(3, 48, 5), a(-1, -1, -1));
        changesNothing(Edge::busy, "asks", a(0, 47, 0), a(1, 20, 1), a(2, 3, 2), a(2, 3, 3), a(0, 0, 4));
        due(BAD, anew(), "asks", 0, 0, 0);
        due(0, busy(), "asks", 2, 47, 4);
    }
}
