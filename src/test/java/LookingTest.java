/** Promises 9 to 14: look, next, plan, planned, search, giveUp. */
public final class LookingTest {
    private static final int MIN = Integer.MIN_VALUE;
    private static final int MAX = Integer.MAX_VALUE;

    public static void main(String[] args) {
        promise9();
        promise9Clock();
        promise9Refused();
        promise10();
        promise10Ties();
        promise10None();
        promise11();
        promise11Thought();
        promise11Tide();
        promise11Refused();
        promise12();
        promise13();
        promise14();
        Due.end("LookingTest");
    }

    private static void promise9() {
        RingInSand x = new RingInSand();
        x.looker(0, 0);
        x.looker(5, 9);
        x.looker(2, 9);
        x.set(0, 0, 1000);
        Due.is("look(0, 0), GOOD 90", x.look(0, 0), 100);
        Due.is("told(0, 1)", x.told(0, 1), 2);
        Due.is("count(3)", x.count(3), 2);
        // GOOD is that of ahead of the look: depth 2, so 88 less 40
        Due.is("look(0, 0), GOOD 48", x.look(0, 0), 52);
        Due.is("told(0, 1)", x.told(0, 1), 4);
        // 70 less 8 less 27
        Due.is("look(1, 0), GOOD 35", x.look(1, 0), 33);
        Due.is("told(0, 1), 11 more", x.told(0, 1), 15);
        Due.is("count(3), 12 more", x.count(3), 16);
        // 60 and 9, less 90, and 30
        Due.is("look(2, 0), GOOD 9", x.look(2, 0), 30);
        Due.is("told(0, 1), a SIEVE leaves none", x.told(0, 1), 15);
        Due.is("count(3), 15 more", x.count(3), 31);
        Due.is("look(0, 0), GOOD 0", x.look(0, 0), 30);
        Due.is("told(0, 0)", x.told(0, 0), 30);
        Due.is("told(1, 1)", x.told(1, 1), 0);
        x.set(1, 0, 98);
        x.look(1, 0);
        Due.is("told(0, 1), 99 at most", x.told(0, 1), 99);
        Due.is("look(0, 47), no ODDS", x.look(0, 47), 0);
        Due.is("told(47, 1)", x.told(47, 1), 2);
        x.set(0, 1, 999999);
        Due.is("look(0, 1), GOOD 90, 99999.9 cut", x.look(0, 1), 99999);
    }

    private static void promise9Clock() {
        RingInSand x = new RingInSand();
        x.looker(2, 9);
        x.set(4, 0, 45);
        x.look(0, 0);
        Due.is("count(2), 60 are an hour more", x.count(2), 13);
        Due.is("count(3)", x.count(3), 0);
        x.set(4, 0, 44);
        x.look(0, 0);
        Due.is("count(2)", x.count(2), 13);
        Due.is("count(3)", x.count(3), 59);
        x.set(3, 0, 23);
        x.look(0, 0);
        Due.is("count(2), behind 23 comes 0", x.count(2), 0);
        Due.is("count(3)", x.count(3), 14);
    }

    private static void promise9Refused() {
        RingInSand x = new RingInSand();
        x.looker(0, 0);
        x.set(0, 40, 500);
        x.set(3, 0, 18);
        String ahead = Due.picture(x);
        Due.is("look(0, 40), under water", x.look(0, 40), -3);
        Due.is("look(0, 47), under water without ODDS", x.look(0, 47), -3);
        Due.is("look(1, 40), BAD goes ahead of STATE", x.look(1, 40), -2);
        int[][] refused = {{-1, 0}, {1, 0}, {0, -1}, {0, 48}, {MIN, 0}, {MAX, 0}, {0, MIN}, {0, MAX}};
        for (int[] r : refused) {
            Due.is("look(" + r[0] + ", " + r[1] + ")", x.look(r[0], r[1]), -2);
        }
        Due.holds("a refused look() changes nothing", ahead.equals(Due.picture(x)));
        Due.is("look(0, 39)", x.look(0, 39), 0);
    }

    private static void promise10() {
        RingInSand x = new RingInSand();
        x.looker(1, 0);
        x.looker(0, 0);
        x.looker(3, 0);
        x.set(0, 3, 1000);
        x.set(0, 11, 2000);
        // in 3: HANDS 600 by 6, EYES 900 by 2, PLATE 700 by 3; in 11 EYES 1380 by 2
        Due.is("next(0)", x.next(0), 1);
        Due.is("next(1)", x.next(1), 11);
        Due.is("next(2)", x.next(2), 690);
        // by TREADS 3 of 11 EYES find 86 less 80, PLATE 62: 1240 by 3
        x.set(1, 11, 3);
        Due.is("next(0)", x.next(0), 1);
        Due.is("next(1)", x.next(1), 3);
        Due.is("next(2)", x.next(2), 450);
        x.set(0, 3, 900);
        Due.is("next(0), 413 against 405", x.next(0), 2);
        Due.is("next(1)", x.next(1), 11);
        Due.is("next(2)", x.next(2), 413);
        int[] refused = {-1, 3, MIN, MAX};
        for (int r : refused) {
            Due.is("next(" + r + ")", x.next(r), -2);
        }
    }

    private static void promise10Ties() {
        RingInSand x = new RingInSand();
        x.looker(0, 1);
        x.looker(0, 2);
        x.set(0, 7, 100);
        x.set(0, 4, 100);
        Due.is("next(0), like LOOKERS", x.next(0), 0);
        Due.is("next(1), like CELLS", x.next(1), 4);
        // PER MINUTE is cut: 90 by 2 and 91 by 2 are like
        x.set(0, 7, 102);
        Due.is("next(2)", x.next(2), 45);
        Due.is("next(1), like when cut", x.next(1), 4);
        RingInSand y = new RingInSand();
        y.looker(3, 0);
        y.looker(0, 0);
        // EYES in 0: 128 by 2; PLATE in 24: 192 by 3
        y.set(0, 0, 143);
        y.set(0, 24, 300);
        Due.is("next(2)", y.next(2), 64);
        Due.is("next(0), the first LOOKER goes ahead of the least CELL", y.next(0), 0);
        Due.is("next(1)", y.next(1), 24);
        Due.is("asks(1, 0, 4)", y.asks(1, 0, 4), 64);
    }

    private static void promise10None() {
        RingInSand x = new RingInSand();
        x.set(0, 0, 1000);
        Due.is("next(0), no LOOKER", x.next(0), -1);
        Due.is("next(3), BAD goes ahead of NONE", x.next(3), -2);
        x.looker(4, 0);
        x.set(0, 0, 39);
        Due.is("next(1), 11 by 12", x.next(1), -1);
        x.set(0, 0, 40);
        Due.is("next(1), 12 by 12", x.next(1), 0);
        Due.is("next(2), 12 by 12", x.next(2), 1);
        x.set(0, 0, 0);
        x.set(0, 40, 999999);
        x.set(3, 0, 20);
        Due.is("next(0), under water", x.next(0), -1);
    }

    /** EYES; 1000 in CELL 0, 500 in CELL 1: GAINS are 900, 450, 48, 24, 3 in 0, 1, 0, 1, 0. */
    private static RingInSand two() {
        RingInSand x = new RingInSand();
        x.looker(0, 0);
        x.set(0, 0, 1000);
        x.set(0, 1, 500);
        return x;
    }

    private static void promise11() {
        RingInSand x = two();
        int[] gains = {0, 900, 1350, 1398, 1422, 1425, 1425};
        for (int n = 0; n < gains.length; n++) {
            Due.is("plan(" + n + ", 0)", x.plan(n, 0), gains[n]);
            Due.is("plan(" + n + ", 1)", x.plan(n, 1), Math.min(5, n));
            Due.is("plan(" + n + ", 2)", x.plan(n, 2), 2 * Math.min(5, n));
        }
        Due.is("plan(20, 0)", x.plan(20, 0), 1425);
        Due.is("plan(20, 1)", x.plan(20, 1), 5);
        Due.is("plan(20, 2)", x.plan(20, 2), 10);
        RingInSand more = new RingInSand();
        more.looker(2, 9);
        for (int c = 0; c < 24; c++) {
            more.set(0, c, 1000);
        }
        Due.is("plan(20, 1)", more.plan(20, 1), 20);
        Due.is("plan(20, 2), by 15", more.plan(20, 2), 300);
        Due.is("plan(20, 0): 8 times 990, 8 times 930, 4 times 870", more.plan(20, 0), 18840);
    }

    private static void promise11Thought() {
        RingInSand x = two();
        Due.laid(x, 0, 0, 0, 0);
        String ahead = Due.picture(x);
        x.plan(20, 0);
        x.planned(3);
        x.giveUp(10);
        x.foundBy(3, 20);
        Due.holds("what is in thought changes nothing", ahead.equals(Due.picture(x)));
    }

    /** By then the sea comes: at 17:56 two looks of EYES are left in row 5. */
    private static void promise11Tide() {
        RingInSand x = Due.ruled("deep 0;sea 4<y and 17<hour;shine 50;");
        x.looker(0, 0);
        x.set(0, 40, 1000);
        x.set(3, 0, 17);
        x.set(4, 0, 56);
        Due.is("plan(20, 1)", x.plan(20, 1), 2);
        Due.is("plan(20, 0)", x.plan(20, 0), 750);
        x.set(0, 0, 30);
        Due.is("plan(20, 0)", x.plan(20, 0), 750 + 15 + 7 + 3);
        Due.is("planned(1)", x.planned(1), 40);
        Due.is("planned(2)", x.planned(2), 0);
        // behind 23 comes 0, and the sea goes
        x.set(3, 0, 23);
        x.set(0, 0, 4);
        Due.is("planned(0)", x.planned(0), 0);
        Due.is("plan(20, 1)", x.plan(20, 1), 1);
        x.set(0, 0, 30);
        x.set(4, 0, 58);
        Due.is("planned(0)", x.planned(0), 0);
        Due.is("planned(1)", x.planned(1), 40);
    }

    private static void promise11Refused() {
        RingInSand x = two();
        int[][] refused = {{-1, 0}, {21, 0}, {MIN, 0}, {MAX, 0}, {0, -1}, {0, 3}, {20, MIN}, {20, MAX}};
        for (int[] r : refused) {
            Due.is("plan(" + r[0] + ", " + r[1] + ")", x.plan(r[0], r[1]), -2);
        }
    }

    private static void promise12() {
        RingInSand x = two();
        int[] cells = {0, 1, 0, 1, 0, -1};
        for (int i = 0; i < cells.length; i++) {
            Due.is("planned(" + i + ")", x.planned(i), cells[i]);
        }
        Due.is("planned(19)", x.planned(19), -1);
        int[] refused = {-1, 20, MIN, MAX};
        for (int r : refused) {
            Due.is("planned(" + r + ")", x.planned(r), -2);
        }
        x.plan(1, 0);
        Due.is("planned(1) is of PLAN of 20", x.planned(1), 1);
    }

    private static void promise13() {
        RingInSand x = two();
        int[] cells = {0, 1, 0, 1, 0, -1, -1};
        int[] first = {100, 100, 52, 52, 48, 48, 48};
        int[] second = {500, 50, 50, 26, 26, 26, 26};
        for (int i = 0; i < cells.length; i++) {
            Due.is("search() " + i, x.search(), cells[i]);
            Due.is("told(0, 0) " + i, x.told(0, 0), first[i]);
            Due.is("told(1, 0) " + i, x.told(1, 0), second[i]);
        }
        Due.is("told(0, 1)", x.told(0, 1), 6);
        Due.is("told(1, 1)", x.told(1, 1), 4);
        Due.is("count(3)", x.count(3), 10);
        RingInSand none = new RingInSand();
        none.set(0, 0, 1000);
        Due.is("search(), no LOOKER", none.search(), -1);
        Due.is("count(3)", none.count(3), 0);
    }

    private static void promise14() {
        RingInSand x = two();
        int[][] dues = {{0, 5}, {3, 5}, {4, 4}, {24, 4}, {25, 3}, {48, 3}, {49, 2}, {450, 2}, {451, 1}, {900, 1},
            {901, 0}, {999999, 0}};
        for (int[] d : dues) {
            Due.is("giveUp(" + d[0] + ")", x.giveUp(d[0]), d[1]);
        }
        int[] refused = {-1, 1000000, MIN, MAX};
        for (int r : refused) {
            Due.is("giveUp(" + r + ")", x.giveUp(r), -2);
        }
        // of an earlier PLAN nothing is left
        x.set(1, 0, 50);
        x.set(1, 1, 50);
        Due.is("plan(20, 1)", x.plan(20, 1), 0);
        Due.is("giveUp(1)", x.giveUp(1), 0);
        Due.is("giveUp(0)", x.giveUp(0), 0);
        Due.is("planned(0)", x.planned(0), -1);
        // a later GAIN may be above one ahead of it: SPADE finds more when it lies deeper
        RingInSand y = Due.ruled("deep trod*10;sea 0;shine 0;");
        y.looker(4, 0);
        y.set(0, 0, 1000);
        // FINDS 30, then 50, then 70
        Due.is("plan(1, 0)", y.plan(1, 0), 300);
        Due.is("plan(2, 0)", y.plan(2, 0), 650);
        Due.is("giveUp(300)", y.giveUp(300), 2);
        Due.is("giveUp(301), the first one below ends it", y.giveUp(301), 0);
    }
}
