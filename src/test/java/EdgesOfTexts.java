/** Boundaries of promises 6 to 8: feed, text, force. */
final class EdgesOfTexts extends Edge {
    private EdgesOfTexts() {
    }

    static void all() {
        feedBounds();
        feedRefused();
        textNumber();
        textFull();
        tokens();
        everyByte();
        everyLetter();
        blanks();
        partsInOrder();
        ors();
        nots();
        sums();
        names();
        valuesOfLogic();
        valuesThatWrap();
        faultsOfPlace();
        faultsAtTheEnd();
        faultsOfTokens();
        openOnes();
        openTill();
        openBehindAnother();
        longestTape();
        forceBounds();
        forceRefused();
    }

    private static void reads(String letters) {
        due(1, fed(anew(), letters), "text");
    }

    private static void faults(int place, String letters) {
        RingInSand x = fed(anew(), letters);
        due(-100 - place, x, "text");
        due(0, x, "count", 5);
        due(1, x, "count", 4);
    }

    /** What an E is, where it is within 0 .. 99. */
    private static void tells(int want, String e) {
        due(want, ruled("deep " + e + REST), "told", 0, 2);
    }

    // ---- promise 6

    private static void feedBounds() {
        of(6, "A byte (0 .. 255) comes behind THE TAPE: how many it has.");
        RingInSand x = anew();
        due(1, x, "feed", 0);
        due(2, x, "feed", 255);
        int[] beyond = {-1, 256, MIN, MAX};
        for (int letter : beyond) {
            due(BAD, x, "feed", letter);
        }
        due(2, x, "count", 5);
        due(3, x, "feed", 0);
        // behind what was, not ahead of it
        x = fed(anew(), "deep 12;sea 3;shine 4");
        due(22, x, "feed", ';');
        due(1, x, "text");
        due(0, x, "force", 1);
        due(12, x, "told", 0, 2);

        of(6, "A TEXT is read from THE TAPE (160 bytes at most).");
        x = anew();
        for (int i = 1; i <= 160; i++) {
            due(i, x, "feed", 32);
        }
        due(FULL, x, "feed", 32);
        due(160, x, "count", 5);
        due(-260, x, "text");
        due(1, x, "feed", 32);
    }

    private static RingInSand fullTape() {
        RingInSand x = fed(anew(), "deep 5" + REST);
        for (int i = 22; i <= 160; i++) {
            due(i, x, "feed", 10);
        }
        return x;
    }

    private static void feedRefused() {
        of(6, "how many it has. BAD; FULL.");
        changesNothing(Edge::busy, BAD, "feed", a(-1), a(256), a(MIN), a(MAX));
        changesNothing(EdgesOfTexts::fullTape, FULL, "feed", a(0), a(32), a(255));
        // BAD goes ahead of FULL
        changesNothing(EdgesOfTexts::fullTape, BAD, "feed", a(-1), a(256), a(MIN), a(MAX));
        // what was refused isn't read
        RingInSand x = fullTape();
        due(FULL, x, "feed", '$');
        due(1, x, "text");
    }

    // ---- promise 7

    private static void textNumber() {
        of(7, "THE TAPE, which is empty then (by a FAULT, too), is a TEXT: its number;");
        RingInSand x = anew();
        for (int t = 1; t <= 5; t++) {
            fed(x, "deep " + t + REST);
            due(21, x, "count", 5);
            due(t, x, "text");
            due(0, x, "count", 5);
            // a FAULT takes no number
            if (t < 5) {
                fed(x, "deep " + t + REST + ";");
                due(-121, x, "text");
                due(0, x, "count", 5);
                due(t + 1, x, "count", 4);
            }
        }
        due(0, x, "count", 6);
        // but for THE TAPE all is as it was behind a FAULT
        like(Edge::quiet, () -> {
            RingInSand y = busy();
            due(-107, y, "text");
            due(-100, y, "text");
            return y;
        });
        // nothing of an earlier, longer TAPE is read
        x = fed(anew(), "deep 7;sea 7;shine 7;");
        due(1, x, "text");
        due(-107, fed(x, "deep 7;"), "text");
        due(-106, fed(x, "deep 7"), "text");
        due(-100, x, "text");
        due(2, x, "count", 4);

        of(7, "-100 less the place of its FAULT.");
        faults(0, "");
        faults(0, "$");
        faults(1, " $");
        faults(159, " ".repeat(159) + "$");
        faults(160, " ".repeat(160));
    }

    private static RingInSand fullTexts() {
        RingInSand x = anew();
        for (int t = 1; t <= 5; t++) {
            fed(x, "deep " + t + REST);
            due(t, x, "text");
        }
        return x;
    }

    private static void textFull() {
        of(7, "FULL (ahead of all): no TEXT more has room (THE TAPE stays).");
        changesNothing(EdgesOfTexts::fullTexts, FULL, "text", a(), a());
        // ahead of its FAULT
        changesNothing(() -> fed(fullTexts(), "deep $"), FULL, "text", a(), a());
        changesNothing(() -> fed(fullTexts(), "deep 9" + REST), FULL, "text", a(), a());
        RingInSand x = fed(fullTexts(), "deep 9");
        due(FULL, x, "text");
        due(6, x, "count", 5);
        due(7, x, "feed", 32);

        of(7, "There are 6 TEXTS at most, TEXT 0 with them.");
        x = fullTexts();
        due(6, x, "count", 4);
        for (int t = 5; t >= 0; t--) {
            due(t == 5 ? 0 : t + 1, x, "force", t);
            due(t, x, "told", 0, 2);
        }
        due(1, anew(), "count", 4);
    }

    private static void tokens() {
        of(7, "TOKENS, each as long as can be: WORDS (a .. z), NUMBERS (as many digits as stand there, 4 at most),"
                + " SIGNS ( ) ; + - * < = ;");
        reads("deep1;sea2;shine3;");
        reads("deep(y)and(x)or 1<2and 3;sea not(0);shine-y*(x)+1-2=3;");
        reads("deep 1or 2and 3" + REST);
        reads("deep 12and 34" + REST);
        faults(0, "deepy" + REST);
        faults(5, "deep yx" + REST);
        faults(5, "deep noty" + REST);
        faults(5, "deep notnot 1" + REST);
        faults(7, "deep 1 orx" + REST);
        faults(7, "deep 1 andor 2" + REST);
        faults(6, "deep y2" + REST);
        faults(6, "deep 2y" + REST);
        // 4 digits at most
        reads("deep 0" + REST);
        reads("deep 0000" + REST);
        reads("deep 9999" + REST);
        tells(7, "0007");
        faults(5, "deep 00000" + REST);
        faults(5, "deep 10000" + REST);
        faults(8, "deep y+ 12345" + REST);
        reads("deep 1234+5678" + REST);
        faults(10, "deep 1234 5678" + REST);
    }

    private static void everyByte() {
        of(7, "also of a byte that begins none,");
        for (int letter = 0; letter < 256; letter++) {
            RingInSand x = fed(anew(), "deep 1");
            due(7, x, "feed", letter);
            fed(x, REST);
            boolean isBlankOrDigit = letter == 32 || letter == 10 || letter >= '0' && letter <= '9';
            // what goes on behind a 1 can't be followed by a ;
            boolean goesOn = ";+-*<=".indexOf((char) letter) >= 0;
            due(isBlankOrDigit ? 1 : goesOn ? -107 : -106, x, "text");
        }
        for (int letter = 0; letter < 256; letter++) {
            boolean isBlank = letter == 32 || letter == 10;
            RingInSand x = anew();
            due(1, x, "feed", letter);
            due(isBlank ? 1 : -100, fed(x, "deep 1" + REST), "text");
            x = fed(anew(), "deep 1" + REST);
            due(22, x, "feed", letter);
            due(isBlank ? 1 : -121, x, "text");
        }
        faults(7, "deep 1 $ q 12345;");
        faults(7, "deep 1 12345 $ q;");
        faults(7, "deep 1 q $ 12345;");
    }

    private static void everyLetter() {
        of(7, "TOKENS, each as long as can be: WORDS (a .. z),");
        for (char letter = 'a'; letter <= 'z'; letter++) {
            faults(5, "deep x" + letter + REST);
            faults(5, "deep " + letter + "x" + REST);
        }
        // what is none ends a WORD
        int[] others = {'a' - 1, 'z' + 1, 'A', 'Z', '0', '9'};
        for (int other : others) {
            faults(6, "deep x" + (char) other + REST);
        }

        of(7, "NUMBERS (as many digits as stand there, 4 at most),");
        for (char digit = '0'; digit <= '9'; digit++) {
            tells(10 + digit - '0', "1" + digit);
            tells(digit - '0', "000" + digit);
            faults(5, "deep 1234" + digit + REST);
        }
        faults(6, "deep 1" + (char) ('0' - 1) + REST);
        faults(6, "deep 1" + (char) ('9' + 1) + REST);
    }

    private static void blanks() {
        of(7, "blanks (32, 10) may stand between.");
        reads(" \n deep \n ( \n y \n ) \n ; \n sea \n 0 \n ; shine \n - \n 1 \n ; \n ");
        reads("\n\n\ndeep 1" + REST);
        reads("deep 1" + REST + "\n  \n");
        // within a TOKEN they don't stand
        faults(0, "de ep 1" + REST);
        faults(7, "deep 1 2" + REST);
        faults(5, "deep no t 1" + REST);
        faults(7, "deep 1\n2" + REST);
        int[] others = {0, 9, 11, 12, 13, 31, 33, 160};
        for (int other : others) {
            faults(4, "deep" + (char) other + "1" + REST);
        }
    }

    private static void partsInOrder() {
        of(7, "TEXT: deep E ; sea E ; shine E ;");
        reads("deep 1;sea 2;shine 3;");
        faults(0, "sea 2;deep 1;shine 3;");
        faults(0, "shine 3;");
        faults(0, "1;");
        faults(0, ";");
        faults(7, "deep 1;shine 3;sea 2;");
        faults(7, "deep 1;deep 1;sea 2;shine 3;");
        faults(7, "deep 1;;sea 2;shine 3;");
        faults(13, "deep 1;sea 2;sea 2;shine 3;");
        faults(21, "deep 1;sea 2;shine 3;;");
        faults(21, "deep 1;sea 2;shine 3;shine 3;");
        faults(21, "deep 1;sea 2;shine 3;1");
        faults(5, "deep ;sea 2;shine 3;");
        faults(11, "deep 1;sea ;shine 3;");
        faults(19, "deep 1;sea 2;shine ;");
        faults(7, "deep 1 sea 2;shine 3;");
        faults(13, "deep 1;sea 2 shine 3;");
    }

    private static void ors() {
        of(7, "E: AND { or AND }.");
        reads("deep 1 or 2" + REST);
        reads("deep 1 or 2 or 3 or 4" + REST);
        faults(5, "deep or 1" + REST);
        faults(9, "deep 1 or;sea 0;shine 0;");
        faults(10, "deep 1 or or 2" + REST);
        faults(10, "deep 1 or and 2" + REST);
        tells(1, "1 or 0 and 0");
        tells(0, "(1 or 0) and 0");

        of(7, "AND: NOT { and NOT }.");
        reads("deep 1 and 2" + REST);
        reads("deep 1 and 2 and not 3 and 4" + REST);
        faults(5, "deep and 1" + REST);
        faults(10, "deep 1 and;sea 0;shine 0;");
        faults(11, "deep 1 and and 2" + REST);
        faults(11, "deep 1 and or 2" + REST);
        tells(1, "0 and 0 or 1");
    }

    private static void nots() {
        of(7, "NOT: not NOT, or SUM, perhaps < or = and a SUM.");
        reads("deep not 1" + REST);
        reads("deep not not 1" + REST);
        reads("deep not 1 < 2" + REST);
        reads("deep 1 < 2" + REST);
        reads("deep 1 = 2" + REST);
        reads("deep 1 + 2 < 3 + 4" + REST);
        tells(1, "not 2 < 1");
        tells(0, "(not 2) < 0");
        tells(1, "1 = 3 - 2");
        tells(1, "1 + 1 = 2");
        // one < or = alone
        faults(8, "deep 1<2<3" + REST);
        faults(8, "deep 1<2=3" + REST);
        faults(8, "deep 1=2=3" + REST);
        faults(8, "deep 1=2<3" + REST);
        reads("deep (1<2)<3" + REST);
        faults(5, "deep <1" + REST);
        faults(7, "deep 1<;sea 0;shine 0;");
        faults(7, "deep 1==2" + REST);
        faults(8, "deep not;sea 0;shine 0;");
        faults(7, "deep 1 not 2" + REST);
        // a not is no SUM
        faults(7, "deep 1<not 2" + REST);
        faults(7, "deep 1+not 2" + REST);
        faults(7, "deep 1*not 2" + REST);
        faults(6, "deep -not 2" + REST);
    }

    private static void sums() {
        of(7, "SUM: TERM { + or - TERM }.");
        tells(4, "9-3-2");
        tells(8, "9-(3-2)");
        tells(10, "9-1+2");
        reads("deep 1+2-3+4-5" + REST);
        faults(5, "deep +1" + REST);
        faults(7, "deep 1++2" + REST);
        faults(7, "deep 1-+2" + REST);
        faults(7, "deep 1+;sea 0;shine 0;");
        tells(3, "1--2");
        tells(1, "3+-2");

        of(7, "TERM: ONE { * ONE }.");
        tells(7, "1+2*3");
        tells(9, "(1+2)*3");
        tells(24, "2*3*4");
        faults(5, "deep *1" + REST);
        faults(7, "deep 1**2" + REST);
        faults(7, "deep 1*;sea 0;shine 0;");
        faults(7, "deep 1*+2" + REST);
        tells(6, "2*-3*-1");

        of(7, "ONE: a NUMBER, a NAME, - ONE, ( E ).");
        reads("deep 1;sea y;shine -1;");
        reads("deep (1);sea (y or x);shine (not 1 < 2);");
        tells(5, "-(0-5)");
        tells(5, "--5");
        // a - belongs to the ONE alone
        tells(3, "-2+5");
        tells(1, "-1<0");
        faults(6, "deep ()" + REST);
        faults(6, "deep -;sea 0;shine 0;");
        faults(7, "deep (1;sea 0;shine 0;");
        faults(6, "deep 1)" + REST);
        faults(6, "deep (;sea 0;shine 0;");
        faults(5, "deep )" + REST);
        faults(8, "deep (1)(2)" + REST);
        faults(6, "deep 2(3)" + REST);
    }

    private static void names() {
        of(7, "NAMES are y x depth trod hour sun; deep, sea, shine, or, and, not are KEYS.");
        String[] names = {"y", "x", "depth", "trod", "hour", "sun"};
        for (String name : names) {
            reads("deep " + name + ";sea " + name + ";shine " + name + ";");
            faults(0, name + " 1" + REST);
            faults(7, "deep 1 " + name + REST);
            faults(5, "deep " + name + "s" + REST);
        }
        String[] keys = {"deep", "sea", "shine", "or", "and"};
        for (String key : keys) {
            faults(5, "deep " + key + " 1" + REST);
            faults(5, "deep " + key + REST);
        }
        String[] near = {"dept", "depths", "tro", "hou", "su", "s", "z", "a", "no", "an", "o", "se", "shin", "dee", "yy"};
        for (String word : near) {
            faults(5, "deep " + word + REST);
        }
    }

    private static void valuesOfLogic() {
        of(7, "of or, and, not, <, = 1 or 0 (what is not 0 is true).");
        tells(1, "7 or 0");
        tells(1, "0 or 7");
        tells(1, "7 or 7");
        tells(0, "0 or 0");
        tells(1, "0-1 or 0");
        tells(1, "7 and 5");
        tells(0, "7 and 0");
        tells(0, "0 and 7");
        tells(1, "-1 and -1");
        tells(1, "2 and 1");
        tells(0, "not 7");
        tells(0, "not -1");
        tells(1, "not 0");
        tells(1, "not not 9");
        tells(1, "1<2");
        tells(0, "2<2");
        tells(0, "3<2");
        tells(1, "-1<0");
        tells(1, "2=2");
        tells(0, "2=3");
        tells(1, "0=0");
        tells(3, "(1<2)+(3=3)+(not 0)");
        tells(1, "4096*4096*128 or 0");
        tells(0, "not 4096*4096*128");
        tells(0, "4096*4096*256 or 0");
    }

    private static void valuesThatWrap() {
        of(7, "An E is an int (32 bits, wrapping):");
        String least = "4096*4096*128";
        // the least int, less 1, is the greatest; its - is itself; twice it is 0
        tells(1, least + "<0");
        tells(1, "0<" + least + "-1");
        tells(1, "-(" + least + ")=" + least);
        tells(0, least + "+" + least);
        tells(0, least + "*2");
        tells(1, "(" + least + "-1)+1=" + least);
        tells(1, least + "-1+1<0");
        // < compares without a difference that could wrap
        tells(1, least + "<1");
        tells(0, "1<" + least);
        tells(1, least + "<" + least + "-1");
        tells(0, "4096*4096*256");
        tells(42, "4096*4096*256+42");
        // 999700029999 wraps to -1027349969
        tells(1, "9999*9999*9999<0");
        tells(1, "0<9999*9999");
    }

    private static void faultsOfPlace() {
        of(7, "FAULT: the place of the first byte of the first TOKEN that can't stand there");
        faults(5, "deep shine 1" + REST);
        faults(7, "deep 1 shine" + REST);
        faults(10, "deep 1 +  or 2" + REST);
        faults(8, "deep 1\n\nsun" + REST);
        faults(7, "deep 1 1234" + REST);
        // the first one, whatever stands behind it
        faults(7, "deep 1 2 3 $;");
        faults(5, "deep < q" + REST);
        faults(5, "deep or 12345" + REST);
        faults(6, "deep (or $");

        of(7, "a WORD that is neither KEY nor NAME,");
        faults(5, "deep q" + REST);
        faults(0, "deeps 1" + REST);
        faults(7, "deep 1 xy" + REST);
        faults(21, "deep 1" + REST + "abc");
        faults(5, "deep " + "z".repeat(155));

        of(7, "a NUMBER that is too long,");
        faults(5, "deep 12345" + REST);
        faults(5, "deep 00001" + REST);
        faults(7, "deep 1+99999" + REST);
        faults(7, "deep 1 12345" + REST);
        faults(0, "12345");
        faults(5, "deep " + "9".repeat(155));
    }

    private static void faultsAtTheEnd() {
        of(7, "(the text's size, if it ends too early),");
        String whole = "deep (1 or not y)*2 < -x and 3;sea 0;shine 100;";
        int[] tokenEnds = {4, 6, 7, 10, 14, 16, 17, 18, 19, 21, 23, 24, 28, 30, 31, 34, 36, 37, 42, 46};
        for (int end : tokenEnds) {
            faults(end, whole.substring(0, end));
        }
        reads(whole);
        // blanks are of its size
        faults(5, "deep ");
        faults(9, "deep 1  \n");
        faults(23, "deep 1;sea 0;shine 0  \n");
        faults(20, "deep 1;sea 0;shine 0");
        faults(0, "");
        faults(3, " \n ");
        faults(160, "deep " + "1+".repeat(77) + "1");
    }

    private static void faultsOfTokens() {
        of(7, "a ( , a not, a - ahead of a ONE while 5 of these are open");
        String[] opens = {"(", "not ", "-"};
        String[] fives = {"(((((", "not not not not not ", "-----", "not(-(-", "(((not -", "((not not -", "not not not((",
            "(-(-(", "--(--", "-(not -("};
        for (String five : fives) {
            for (String open : opens) {
                // behind a - no not can stand in any case
                faults(5 + five.length(), "deep " + five + open + "1;");
            }
            String closed = five.replaceAll("[^(]", "").replace('(', ')');
            reads("deep " + five + "1" + closed + REST);
        }
        // what is no ONE's - isn't counted
        reads("deep (((((1-1-1)))))" + REST);
        reads("deep -----1-1-1" + REST);
        reads("deep not not not not not 1-1" + REST);
        // four are open: one more can stand
        reads("deep ((((-1))))" + REST);
        reads("deep ((((not 1))))" + REST);
        reads("deep ((((1))))" + REST);
    }

    private static final String FIVE = "(((((1)))))";

    private static void openOnes() {
        of(7, "(a ( till its ) ,");
        reads("deep " + FIVE + "+" + FIVE + "*" + FIVE + REST);
        reads("deep (1)+(1)+(1)+(1)+(1)+(1)" + REST);
        reads("deep ((((1)+(1)+(1)+(1))))" + REST);
        reads("deep (((((1)))))<-----1" + REST);
        faults(14, "deep (1)+((((((1");
        faults(18, "deep ((((1)+(1)+(((1");
        faults(14, "deep ((((1+2+((1");
        faults(10, "deep ((((((1))))))" + REST);
        faults(8, "deep ((1$");
    }

    private static void openTill() {
        of(7, "not and - till what they belong to ends).");
        // a - : its ONE
        reads("deep -1+" + FIVE + REST);
        reads("deep -1*" + FIVE + REST);
        reads("deep -(1)+" + FIVE + REST);
        reads("deep -(1)*" + FIVE + REST);
        reads("deep -----1*-----1+-----1<-----1" + REST);
        faults(10, "deep -" + FIVE + REST);
        faults(10, "deep -((-(-1");
        // a not: its NOT, with the SUMS on both sides of a < or =
        reads("deep not 1 and " + FIVE + REST);
        reads("deep not 1 or " + FIVE + REST);
        reads("deep not 1=2 and not 1=2 and not 1=2 and not 1=2 and not 1=2 and not 1=2" + REST);
        faults(15, "deep not 1<(((((1)))))" + REST);
        faults(15, "deep not 1+(((((1)))))" + REST);
        faults(15, "deep not 1*(((((1)))))" + REST);
        faults(27, "deep not not not not not 1<-1" + REST);
        faults(27, "deep not not not not not 1--1" + REST);
        reads("deep not not not not 1<-1" + REST);
        reads("deep (not not not not 1)+(not not not not 1)" + REST);
        reads("deep not(1)and not(1)and not(1)and not(1)and not(1)and not(1)" + REST);
    }

    private static void openBehindAnother() {
        of(7, "while 5 of these are open");
        // each E begins with none open
        reads("deep " + FIVE + ";sea -----1;shine not not not not not 1;");
        // and so does each TEXT, behind a FAULT too
        RingInSand x = fed(anew(), "deep (((((1");
        due(-111, x, "text");
        due(1, fed(x, "deep " + FIVE + REST), "text");
        due(-110, fed(x, "deep -----(1)" + REST), "text");
        due(2, fed(x, "deep -----1" + REST), "text");
        due(-125, fed(x, "deep not not not not not not 1" + REST), "text");
        due(3, fed(x, "deep not not not not not 1" + REST), "text");
    }

    private static void longestTape() {
        of(7, "A TEXT is read from THE TAPE (160 bytes at most).");
        String longest = "deep " + "1+".repeat(69) + "1;sea 0;shine 0 ;";
        holds("160 bytes", longest.length() == 160);
        RingInSand x = fed(anew(), longest);
        due(FULL, x, "feed", 32);
        due(1, x, "text");
        due(0, x, "force", 1);
        due(70, x, "told", 0, 2);
        // as deep as numbers can wait for one another
        StringBuilder deepest = new StringBuilder("deep ");
        for (int i = 0; i < 5; i++) {
            deepest.append("0or 1and 0<1+2*(");
        }
        deepest.append("0or 1and 0<1+2*3)))))").append(REST);
        x = ruled(deepest.toString());
        due(1, x, "told", 0, 2);
    }

    // ---- promise 8

    private static void forceBounds() {
        of(8, "A TEXT is THE RULE: which was.");
        RingInSand x = anew();
        due(0, x, "force", 0);
        due(BAD, x, "force", 1);
        for (int t = 1; t <= 5; t++) {
            fed(x, "deep 1" + t + ";sea x=" + t + ";shine 2" + t + ";");
            due(BAD, x, "force", t);
            due(t, x, "text");
        }
        due(0, x, "force", 5);
        due(5, x, "force", 5);
        due(5, x, "count", 6);
        due(15, x, "told", 8, 2);
        due(1, x, "told", 5, 3);
        due(25, x, "told", 0, 4);
        due(1 << 5, x, "under", 3);
        due(5, x, "force", 1);
        due(11, x, "told", 8, 2);
        due(0, x, "told", 5, 3);
        due(21, x, "told", 0, 4);
        due(1, x, "force", 0);
        due(1, x, "told", 8, 2);
        due(90, x, "told", 0, 4);
        due(BAD, x, "force", 6);
    }

    private static void forceRefused() {
        of(8, "which was. BAD.");
        changesNothing(Edge::busy, BAD, "force", a(-1), a(2), a(6), a(MIN), a(MAX));
        changesNothing(EdgesOfTexts::fullTexts, BAD, "force", a(-1), a(6), a(MIN), a(MAX));
        changesNothing(Edge::anew, BAD, "force", a(-1), a(1), a(5), a(6));
    }
}
