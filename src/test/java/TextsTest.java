/** Promises 6 to 8: feed, text, force. */
public final class TextsTest {
    private static final int MIN = Integer.MIN_VALUE;
    private static final int MAX = Integer.MAX_VALUE;
    private static final String REST = ";sea 0;shine 0;";

    public static void main(String[] args) {
        promise6();
        promise7Read();
        promise7Tokens();
        promise7Long();
        promise7Faults();
        promise7Open();
        promise7Room();
        promise7Values();
        promise7Names();
        promise7DeepestStack();
        promise8();
        Due.end("TextsTest");
    }

    private static void promise6() {
        RingInSand x = new RingInSand();
        int[] refused = {-1, 256, MIN, MAX};
        for (int r : refused) {
            Due.is("feed(" + r + ")", x.feed(r), -2);
        }
        Due.is("count(5)", x.count(5), 0);
        Due.is("feed(0)", x.feed(0), 1);
        Due.is("feed(255)", x.feed(255), 2);
        for (int i = 3; i <= 160; i++) {
            Due.is("feed(32)", x.feed(32), i);
        }
        Due.is("feed(32), too many", x.feed(32), -4);
        Due.is("feed(256), BAD goes ahead of FULL", x.feed(256), -2);
        Due.is("count(5)", x.count(5), 160);
        Due.is("text() of bytes 0, 255, ..", x.text(), -100);
        Due.is("count(5)", x.count(5), 0);
        Due.is("feed(32)", x.feed(32), 1);
    }

    private static void promise7Read() {
        RingInSand x = Due.fed(new RingInSand(), "deep 1" + REST);
        Due.is("text()", x.text(), 1);
        Due.is("count(5), THE TAPE is empty", x.count(5), 0);
        Due.is("count(4)", x.count(4), 2);
        Due.is("count(6), THE RULE stays", x.count(6), 0);
        Due.fed(x, "deep 1;");
        Due.is("text(), too early", x.text(), -107);
        Due.is("count(5), by a FAULT too", x.count(5), 0);
        Due.is("count(4)", x.count(4), 2);
        Due.fed(x, "deep 2" + REST);
        Due.is("text()", x.text(), 2);
        Due.is("text() of an empty tape", x.text(), -100);
        // nothing of an earlier tape is read behind the end
        Due.is("text()", Due.fed(x, "deepxx").text(), -100);
        Due.is("text()", Due.fed(x, "deep").text(), -104);
        Due.is("text()", Due.fed(x, "deep 12345").text(), -105);
        Due.is("text()", Due.fed(x, "deep 1").text(), -106);
        Due.is("text()", Due.fed(x, "deep 3" + REST + "x").text(), -121);
        Due.is("text()", Due.fed(x, "deep 3" + REST).text(), 3);
    }

    private static void reads(String letters) {
        Due.is("text() of [" + letters + "]", Due.fed(new RingInSand(), letters).text(), 1);
    }

    private static void faults(String letters, int place) {
        Due.is("text() of [" + letters + "]", Due.fed(new RingInSand(), letters).text(), -100 - place);
    }

    private static void promise7Tokens() {
        reads("deep trod * 1 + y ; sea 4 < y and 17 < hour ; shine sun - depth ;");
        reads("deep 1;sea 2;shine 3;");
        reads(" \n deep\n1 ;sea(2);shine-3; \n ");
        reads("deep1;sea2;shine3;");
        reads("deep 0000;sea 9999;shine 0001;");
        reads("deep 1and 2or 3;sea not(0);shine y=x;");
        faults("deepy;", 0);
        faults("deep y2;", 6);
        faults("deep 2y;", 6);
        faults("deep yx;", 5);
        faults("deep 12345" + REST, 5);
        faults("deep 1+00000" + REST, 7);
        faults("deep 1\t" + REST, 6);
        faults("deep Y" + REST, 5);
        faults("Deep 1" + REST, 0);
        faults("deep 1>2" + REST, 6);
        faults("deep 1" + (char) 233 + REST, 6);
        faults("deep 1" + (char) 0 + REST, 6);
        faults("deep 1\r" + REST, 6);
        faults("deep 1`" + REST, 6);
        faults("deep 1{" + REST, 6);
        faults("deep 1/2" + REST, 6);
        faults("deep 1:2" + REST, 6);
        faults("deep nott 1" + REST, 5);
        faults("deep 1 andd 1" + REST, 7);
        faults("deep 1 an 1" + REST, 7);
        faults("deep yz" + REST, 5);
        faults("deep ya" + REST, 5);
        reads("deep 09+90" + REST);
        // no byte below 10 is taken for a TOKEN
        for (int letter = 0; letter < 10; letter++) {
            char c = (char) letter;
            faults(c + " 1" + REST, 0);
            faults("deep " + c + REST, 5);
            faults("deep 1 " + c + " 1" + REST, 7);
            faults("deep 1;" + c + " 0;shine 0;", 7);
            faults("deep 1;sea 0;" + c + " 0;", 13);
            faults("deep 1" + REST + c, 21);
        }
    }

    /** A TEXT of so many bytes, whose sea is where x is i. */
    private static String longText(int size, int i) {
        StringBuilder s = new StringBuilder("deep 0;sea x=").append(i).append(";shine 0");
        s.insert(6, "+1".repeat((size - s.length() - 1 - 2 * i) / 2));
        s.append("+1".repeat((size - s.length() - 1) / 2)).append(';');
        return " ".repeat(size - s.length()) + s;
    }

    private static void tellsLong(RingInSand x, int text, String s) {
        int deep = s.substring(0, s.indexOf(";sea")).split("[+]").length - 1;
        int shine = s.substring(s.indexOf("shine")).split("[+]").length - 1;
        x.force(text);
        Due.is("told(0, 2) of " + s, x.told(0, 2), deep);
        Due.is("told(0, 4) of " + s, x.told(0, 4), shine);
        Due.is("under(0) of " + s, x.under(0), 1 << text);
    }

    /** THE TAPE full of TOKENS, and five TEXTS that are long. */
    private static void promise7Long() {
        RingInSand x = new RingInSand();
        for (int i = 1; i <= 5; i++) {
            Due.fed(x, longText(90, i));
            Due.is("text() " + i, x.text(), i);
        }
        for (int i = 1; i <= 5; i++) {
            tellsLong(x, i, longText(90, i));
        }
        RingInSand most = Due.fed(new RingInSand(), longText(160, 1));
        Due.is("count(5)", most.count(5), 160);
        Due.is("text() of 160 bytes", most.text(), 1);
        tellsLong(most, 1, longText(160, 1));
        faults("(".repeat(160), 0);
        faults(" ".repeat(159) + "$", 159);
        faults("deep " + "1+".repeat(77) + "1", 160);
        faults("deep " + "1+".repeat(77) + ";", 159);
        faults("deep " + " ".repeat(155), 160);
        faults("deep " + "x".repeat(155), 5);
        faults("deep " + "1".repeat(155), 5);
    }

    private static void promise7Faults() {
        faults("", 0);
        faults("  \n", 3);
        faults("deep", 4);
        faults("deep 1", 6);
        faults("deep 1;", 7);
        faults("deep 1;  ", 9);
        faults("deep 1;sea 0", 12);
        faults("deep 1;sea 0;shine", 18);
        faults("deep 1;sea 0;shine 0", 20);
        faults("deep 1;sea 0;shine (0;", 21);
        faults("deep 1;sea 0;shine (0", 21);
        faults("deep 1;sea 0;shine 0+", 21);
        faults("deep 1" + REST + "x", 21);
        faults("deep 1" + REST + " ;", 22);
        faults("deep 1" + REST + "deep 1" + REST, 21);
        faults("deep 1" + REST + "$", 21);
        faults("sea 0;", 0);
        faults("deep 1;shine 0;", 7);
        faults("deep 1;deep 1;", 7);
        faults("deep ;", 5);
        faults("deep deep;", 5);
        faults("deep or;", 5);
        faults("deep 1 2;", 7);
        faults("deep 1 y;", 7);
        faults("deep 1<2<3;", 8);
        faults("deep 1=2=3;", 8);
        faults("deep 1<2=3;", 8);
        faults("deep = 1;", 5);
        faults("deep 1 = ;", 9);
        faults("deep 1 or or 2;", 10);
        faults("deep 1 and;", 10);
        faults("deep 1+not 2;", 7);
        faults("deep 1<not 2;", 7);
        faults("deep -not 2;", 6);
        faults("deep 1+*2;", 7);
        faults("deep +1;", 5);
        faults("deep 1 not;", 7);
        faults("deep (1;", 7);
        faults("deep 1);", 6);
        faults("deep ();", 6);
        faults("deep (1)(2);", 8);
        faults("deep 1 or;", 9);
        faults("deep (1 or)" + REST, 10);
        faults("deep (1 and)" + REST, 11);
        faults("deep not;", 8);
        faults("deep 1*;", 7);
        faults("deep 1+;", 7);
        faults("deep (1*)" + REST, 8);
        faults("deep -;", 6);
        faults("deep (1<)" + REST, 8);
        faults("deep (not)" + REST, 9);
        faults("deep 1 shine 2" + REST, 7);
        faults("deep 1 sea 2" + REST, 7);
        faults("deep 1;sea 0;or 0;", 13);
        faults("deep 1;sea 0;sea 0;", 13);
        faults("deep 1 q 12345 $;", 7);
        faults("deep 1 $ q;", 7);
        faults("deep 12345 $;", 5);
    }

    /** A ( , a not, a - ahead of a ONE: the sixth that is open can't stand. */
    private static void promise7Open() {
        reads("deep (((((1)))))" + REST);
        faults("deep ((((((1))))))" + REST, 10);
        reads("deep -----1" + REST);
        faults("deep ------1" + REST, 10);
        reads("deep not not not not not 1" + REST);
        faults("deep not not not not not not 1" + REST, 25);
        reads("deep not(-(-1))" + REST);
        faults("deep not(-(-(1)))" + REST, 12);
        faults("deep not(-(-(-1)))" + REST, 12);
        reads("deep not(-(-1--1))" + REST);
        faults("deep not(-(--1))" + REST, 12);
        faults("deep (((((not 1)))))" + REST, 10);
        faults("deep (((((-1)))))" + REST, 10);
        reads("deep (((((1-1)))))" + REST);
        // each ends ahead of the next one
        reads("deep (1)+(1)+(1)+(1)+(1)+(1)+(1)" + REST);
        reads("deep -1--1--1--1--1--1--1" + REST);
        reads("deep -1*-1*-1*-1*-1*-1*-1" + REST);
        reads("deep not 1 and not 1 and not 1 and not 1 and not 1 and not 1 and not 1" + REST);
        // a not is open till its NOT ends, so within the sums behind < also
        reads("deep not 1<((((1))))" + REST);
        faults("deep not 1<(((((1)))))" + REST, 15);
        // a - is open till its ONE ends, and not in what comes behind that
        reads("deep -1+(((((1)))))" + REST);
        reads("deep -(1)*(((((1)))))" + REST);
        reads("deep not 1 and (((((1)))))" + REST);
        // what was open in the first part is closed in the second
        reads("deep (((((1)))));sea (((((1)))));shine (((((1)))));");
        // what failed leaves nothing open
        RingInSand x = Due.fed(new RingInSand(), "deep (((((1;");
        Due.is("text()", x.text(), -111);
        Due.is("text() behind a FAULT", Due.fed(x, "deep (((((1)))))" + REST).text(), 1);
    }

    private static void promise7Room() {
        RingInSand x = new RingInSand();
        for (int i = 1; i <= 5; i++) {
            Due.fed(x, "deep " + i + ";sea 0;shine 9" + i + ";");
            Due.is("text()", x.text(), i);
        }
        Due.is("count(4)", x.count(4), 6);
        Due.fed(x, "deep");
        Due.is("text(), no room", x.text(), -4);
        Due.is("count(5), THE TAPE stays", x.count(5), 4);
        Due.is("count(4)", x.count(4), 6);
        Due.is("feed(32)", x.feed(32), 5);
        for (int i = 5; i >= 1; i--) {
            x.force(i);
            Due.is("told(0, 2) by text " + i, x.told(0, 2), i);
            Due.is("told(0, 4) by text " + i, x.told(0, 4), 90 + i);
        }
        x.force(0);
        Due.is("told(0, 4) by text 0", x.told(0, 4), 90);
    }

    /** An E, where it is within 0 .. 99. */
    private static void tells(String e, int want) {
        Due.is("deep " + e, Due.ruled("deep " + e + REST).told(0, 2), want);
    }

    private static void promise7Values() {
        tells("5", 5);
        tells("2+3*4", 14);
        tells("(2+3)*4", 20);
        tells("10-2-3", 5);
        tells("10-(2-3)", 11);
        tells("2*3+4*5", 26);
        tells("2*3*4", 24);
        tells("-3+5", 2);
        tells("--3", 3);
        tells("2--3", 5);
        tells("-2*-3", 6);
        tells("-(2-9)", 7);
        tells("1<2", 1);
        tells("2<2", 0);
        tells("3<2", 0);
        tells("-1<0", 1);
        tells("2=2", 1);
        tells("2=3", 0);
        tells("(1<2)+(1<3)", 2);
        tells("1+1<3", 1);
        tells("7=3+4", 1);
        tells("not 0", 1);
        tells("not 7", 0);
        tells("not not 7", 1);
        tells("not 0=0", 0);
        tells("not 5<3", 1);
        tells("3 or 0", 1);
        tells("0 or 4", 1);
        tells("0 or 0", 0);
        tells("0 or 0 or 9", 1);
        tells("3 and 2", 1);
        tells("3 and 0", 0);
        tells("0 and 3", 0);
        tells("-1 and 2", 1);
        tells("0-1 or 0", 1);
        tells("1 or 1 and 0", 1);
        tells("0 and 0 or 1", 1);
        tells("(1 or 1) and 0", 0);
        tells("not 1 or 1", 1);
        tells("not 0 and 0", 0);
        tells("(3 or 2)*7", 7);
        tells("9999-9950", 49);
        tells("0042", 42);
        // an int wraps: these are -1027349969, 1212917389 and the least int, whose - it is itself
        tells("9999*9999*9999<0", 1);
        tells("3*(9999*9999*9999)<0", 0);
        tells("(9999*9999*9999)+(9999*9999*9999)+(9999*9999*9999)<0", 0);
        tells("4096*4096*128<0", 1);
        tells("-(4096*4096*128)=4096*4096*128", 1);
        tells("4096*4096*128-1<0", 0);
        tells("4096*4096*256", 0);
    }

    private static void promise7Names() {
        RingInSand x = Due.ruled("deep y*10+x;sea trod=7;shine hour;");
        Due.is("told(47, 2)", x.told(47, 2), 57);
        Due.is("told(8, 2)", x.told(8, 2), 10);
        Due.is("told(7, 2)", x.told(7, 2), 7);
        Due.is("told(9, 3)", x.told(9, 3), 0);
        x.set(1, 9, 7);
        Due.is("told(9, 3)", x.told(9, 3), 1);
        Due.is("told(10, 3)", x.told(10, 3), 0);
        Due.is("told(9, 4)", x.told(9, 4), 12);
        x.set(3, 0, 23);
        Due.is("told(9, 4)", x.told(9, 4), 23);
        RingInSand s = Due.ruled("deep sun;sea sun=50;shine sun+depth;");
        Due.is("told(0, 2) at 12", s.told(0, 2), 90);
        Due.is("told(0, 4) at 12", s.told(0, 4), 100);
        s.set(3, 0, 13);
        Due.is("told(0, 2) at 13", s.told(0, 2), 99);
        s.set(3, 0, 8);
        Due.is("told(0, 2) at 8", s.told(0, 2), 50);
        Due.is("told(0, 3) at 8", s.told(0, 3), 1);
        Due.is("told(0, 4) at 8", s.told(0, 4), 100);
        s.set(3, 0, 2);
        Due.is("told(0, 4) at 2", s.told(0, 4), 0);
        Due.is("told(0, 3) at 2", s.told(0, 3), 0);
    }

    /** As many numbers wait for one another as the grammar lets. */
    private static void promise7DeepestStack() {
        StringBuilder e = new StringBuilder();
        for (int i = 0; i < 5; i++) {
            e.append("0or 1and 0<1+2*(");
        }
        e.append("0or 1and 0<1+2*3)))))");
        Due.is("the deepest E", Due.ruled("deep " + e + ";sea 0;shine " + "1;").told(0, 2), 1);
        // every level counts here: (((((3*2+1)*2+1)*2+1)*2+1)*2+1) with each one's comparison waiting
        String f = "1+2*(1+2*(1+2*(1+2*(1+2*(3)))))";
        Due.is("a deep E", Due.ruled("deep 0or 200<" + f + ";sea 0;shine " + f + "-100;").told(0, 4), 27);
    }

    private static void promise8() {
        RingInSand x = Due.fed(new RingInSand(), "deep 7;sea y=0;shine 33;");
        int[] refused = {-1, 1, 6, MIN, MAX};
        for (int r : refused) {
            Due.is("force(" + r + ")", x.force(r), -2);
        }
        Due.is("count(6)", x.count(6), 0);
        Due.is("force(0)", x.force(0), 0);
        Due.is("text()", x.text(), 1);
        Due.is("told(0, 2)", x.told(0, 2), 0);
        Due.is("force(1)", x.force(1), 0);
        Due.is("count(6)", x.count(6), 1);
        Due.is("told(0, 2)", x.told(0, 2), 7);
        Due.is("told(0, 3)", x.told(0, 3), 1);
        Due.is("told(0, 4)", x.told(0, 4), 33);
        Due.is("under(0)", x.under(0), 255);
        Due.is("force(2)", x.force(2), -2);
        Due.is("force(0)", x.force(0), 1);
        Due.is("told(0, 2)", x.told(0, 2), 0);
        Due.is("told(0, 4)", x.told(0, 4), 90);
        Due.is("under(0)", x.under(0), 0);
    }
}
