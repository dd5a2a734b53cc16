/** What the tests of the project share: answers that are due, and texts that are fed. */
final class Due {
    private static int asked = 0;
    private static int wrong = 0;

    private Due() {
    }

    static void is(String call, long got, long want) {
        asked++;
        if (got != want) {
            wrong++;
            System.out.println(call + " answered " + got + ", due is " + want);
        }
    }

    static int asked() {
        return asked;
    }

    static void holds(String what, boolean so) {
        is(what, so ? 1 : 0, 1);
    }

    /** Feeds all letters of a text; the call that reads it is left to the test. */
    static RingInSand fed(RingInSand x, String letters) {
        for (int i = 0; i < letters.length(); i++) {
            x.feed(letters.charAt(i));
        }
        return x;
    }

    /** A new object whose RULE is this text. */
    static RingInSand ruled(String letters) {
        RingInSand x = fed(new RingInSand(), letters);
        is("text() of " + letters, x.text(), 1);
        is("force(1)", x.force(1), 0);
        return x;
    }

    /** A SHEET becomes a row of a sort with these numbers. */
    static void laid(RingInSand x, int sheet, int sort, int... numbers) {
        is("sheet(" + sheet + ", " + sort + ")", x.sheet(sheet, sort, numbers.length), 1);
        for (int i = 0; i < numbers.length; i++) {
            is("cell(" + sheet + ", " + i + ")", x.cell(sheet, i, numbers[i]), 1);
        }
    }

    /** What can be asked without a change, for a comparison ahead and behind; of 512 calls it needs 118. */
    static String picture(RingInSand x) {
        StringBuilder all = new StringBuilder();
        for (int c = 0; c < 48; c++) {
            all.append(x.told(c, 0)).append(' ').append(x.told(c, 1)).append(' ');
        }
        for (int what = 0; what < 8; what++) {
            all.append(x.count(what)).append(' ');
        }
        for (int looker = 0; looker < 6; looker++) {
            all.append(x.taken(looker, 0)).append(' ');
        }
        for (int s = 0; s < 4; s++) {
            all.append(x.judge(s)).append(' ').append(x.found(s, 0)).append(' ');
        }
        return all.toString();
    }

    static void end(String name) {
        System.out.println(name + ": " + asked + " answers, " + wrong + " wrong");
        if (wrong != 0 || asked == 0) {
            System.exit(1);
        }
    }
}
