/** Boundary cases of promises 18 to 22: BOUNDS and their FAULTS, ERROR, MENDED, AREA, STRIP. */
public final class BoundsEdgesTest extends Edges {
    public static void main(String[] args) {
        run(BoundsEdgesTest.class, 18, 22);
    }

    private static Hall hall() {
        Hall x = new Hall();
        x.lots(2);
        return x;
    }

    private static void fault(Hall x, String text, int kind, int place) {
        is("bounds " + text, x.bounds(text, 0, 0, 0), NONE);
        is("kind of " + text, x.fault(0), kind);
        is("place of " + text, x.fault(1), place);
        is("emptied by " + text, x.count(11), 0);
    }

    static void p18NoSuchLotOrCorner() {
        Hall x = hall();
        each("LOT", RANGE, l -> x.bounds("n1;", l, 0, 0), beyond(0, 1));
        each("x", RANGE, c -> x.bounds("n1;", 0, c, 0), beyond(0, 99));
        each("y", RANGE, c -> x.bounds("n1;", 0, 0, c), beyond(0, 99));
        is("no BOUNDS came", x.about(0, 5), 0);
        is("the least corner", x.bounds("n1;", 0, 0, 0), 1);
        is("the greatest, the last LOT", x.bounds("n1;", 1, 99, 99), 1);
        is("x 99", x.about(1, 6), 99);
        is("y 99", x.about(1, 7), 99);
    }

    static void p18RangeEmptiesAndReadsNoText() {
        Hall x = hall();
        fault(x, "n 61;", 2, 2);
        is("RANGE", x.bounds("e1;", 2, 0, 0), RANGE);
        is("the tape is empty", x.count(11), 0);
        is("RANGE of a text that is none", x.bounds("?", 0, 100, 0), RANGE);
        is("the FAULT's kind stays", x.fault(0), 2);
        is("its place", x.fault(1), 2);
        is("nothing is left to read", x.bounds(0, 0, 0), NONE);
        is("SYNTAX", x.fault(0), 1);
    }

    static void p18OneToTwelveLines() {
        Hall x = hall();
        fault(x, "", 1, 0);
        fault(x, " \n", 1, 2);
        is("one", x.bounds("n1;", 0, 0, 0), 1);
        is("twelve", x.bounds(times("e2;", 12), 0, 0, 0), 12);
        fault(x, times("e2;", 13), 4, 36);
        fault(x, times("e2;", 12) + "e", 4, 36);
        fault(x, times("e2;", 12) + " \n w", 4, 39);
        fault(x, times("e2;", 12) + ";", 1, 36);
        fault(x, times("e2;", 12) + "x2;", 1, 36);
        fault(x, times("e2;", 12) + "?", 1, 36);
        is("blanks behind the twelfth", x.bounds(times("e2;", 12) + " \n", 0, 0, 0), 12);
    }

    static void p18OneToSixtyFeet() {
        Hall x = hall();
        is("1", x.bounds("n1;", 0, 0, 0), 1);
        is("1 foot", x.about(0, 10), 1);
        is("60", x.bounds("w60;", 0, 0, 0), 1);
        is("60 feet", x.about(0, 10), 300060);
        for (String n : new String[] {"0", "61", "00", "0000", "0061", "100", "9999"}) fault(x, "s " + n + ";", 2, 2);
        fault(x, "s 61", 2, 2);
        is("those that it had stay", x.about(0, 10), 300060);
    }

    static void p18FourDigits() {
        Hall x = hall();
        is("0001", x.bounds("n0001;", 0, 0, 0), 1);
        is("1 foot", x.about(0, 10), 1);
        is("0060", x.bounds("n 0060;", 0, 0, 0), 1);
        is("60 feet", x.about(0, 10), 60);
        fault(x, "n 00001;", 1, 2);
        fault(x, "n10000;", 1, 1);
        fault(x, "n" + times("9", 30) + ";", 1, 1);
        fault(x, "n 4294967297;", 1, 2);
    }

    static void p18WordsOfAWay() {
        Hall x = hall();
        String[] ways = {"n", "e", "s", "w"};
        for (int way = 0; way < 4; way++) {
            is(ways[way], x.bounds(ways[way] + "7;", 0, 0, 0), 1);
            is("way " + way, x.about(0, 10), way * 100000 + 7);
        }
        for (String w : new String[] {"a", "m", "o", "z", "ne", "nn", "north", "abcdefghijkl", "abcdefghijklm"}) fault(x, w + "7;", 1, 0);
        for (String w : new String[] {"N", "?", "=", "(", "+", ";", "7", "\t", "\r", "\u0000", "\u00ee"}) fault(x, w + "7;", 1, 0);
    }

    static void p18NumbersAreNoWays() {
        Hall x = hall();
        for (String n : new String[] {"14", "5", "19", "23", "59", "0", "1", "2", "3"}) {
            fault(x, n + " 7;", 1, 0);
            fault(x, "n 7 " + n, 1, 4);
        }
        is("a way may stand at an N", x.bounds("n14;e5;s19;w23;n59;", 0, 0, 0), 5);
    }

    static void p18SyntaxAtEachToken() {
        Hall x = hall();
        fault(x, "n", 1, 1);
        fault(x, "n  ", 1, 3);
        fault(x, "n n;", 1, 2);
        fault(x, "n ;", 1, 2);
        fault(x, "n 5", 1, 3);
        fault(x, "n 5 \n", 1, 5);
        fault(x, "n 5 n", 1, 4);
        fault(x, "n 5 5;", 1, 4);
        fault(x, "n 5;;", 1, 4);
        fault(x, "n 5; e", 1, 6);
        fault(x, "n 5;?", 1, 4);
        fault(x, "n 5; e 6", 1, 8);
        fault(x, "n=5;", 1, 1);
        fault(x, "n+5;", 1, 1);
    }

    static void p18FirstFaultOfTwo() {
        Hall x = hall();
        fault(x, "n 61; x", 2, 2);
        fault(x, "x 61;", 1, 0);
        fault(x, "n 1; n 0" + times(";e1", 13), 2, 7);
        fault(x, times("e2;", 12) + "e 99;", 4, 36);
    }

    static void p18BytesThatAreBlanks() {
        Hall x = hall();
        is("32 and 10", x.bounds(" \n n \n 5 \n ; \n ", 0, 0, 0), 1);
        is("none between", x.bounds("n5;e5;", 0, 0, 0), 2);
        fault(x, "n\t5;", 1, 1);
        fault(x, "n\r5;", 1, 1);
        fault(x, "n\u00a05;", 1, 1);
    }

    static void p18ThoseThatItHadStay() {
        Hall x = hall();
        x.bounds("n5;e6;", 0, 7, 8);
        fault(x, "w9;w9;w9;w", 1, 10);
        int[] had = {2, 7, 8, -9, -9, 5, 100006, -9};
        for (int i = 0; i < had.length; i++) is("about " + (5 + i), x.about(0, 5 + i), had[i]);
    }

    static void p18AnewAndWhole() {
        Hall x = hall();
        x.bounds(times("n5;", 12), 0, 7, 8);
        is("one line", x.bounds("s1;", 0, 0, 99), 1);
        int[] now = {1, 0, 99, -9, -9, 200001, -9};
        for (int i = 0; i < now.length; i++) is("about " + (5 + i), x.about(0, 5 + i), now[i]);
        is("the other LOT has none", x.about(1, 5), 0);
    }

    static void p18LastLotKeepsItsOwn() {
        Hall x = new Hall();
        x.lots(60);
        is("the last", x.bounds(times("n5;", 12), 59, 1, 2), 12);
        is("the one ahead of it", x.bounds(times("e6;", 12), 58, 3, 4), 12);
        is("its twelfth line", x.about(59, 21), 5);
        is("that of the other", x.about(58, 21), 100006);
        is("its corner", x.about(59, 6), 1);
    }

    static void p18OfALotThatIsntThere() {
        Hall x = new Hall();
        x.lots(1);
        x.lot(10, 9999);
        x.split(0, 5, 2, 5, 5, 0, 0);
        x.pass(50);
        is("SPLIT", x.bounds("n5;e5;s5;w4;", 0, 0, 0), 4);
        is("not there yet", x.bounds("n5;e5;s5;w5;", 1, 0, 0), 4);
        is("MENDED", x.mend(0), 1);
        is("STRIP", x.strip(0, 1), 20);
    }

    private static Hall with(String text) {
        Hall x = hall();
        x.bounds(text, 0, 0, 0);
        return x;
    }

    static void p19NoSuchLotOrNoBounds() {
        Hall x = hall();
        each("LOT", RANGE, x::error, beyond(0, 1));
        is("none", x.error(0), STATE);
        x.bounds("n 61;", 0, 0, 0);
        is("a FAULT tells none", x.error(0), STATE);
        x.bounds("n 60;", 0, 0, 0);
        is("60", x.error(0), 60);
        is("the other", x.error(1), STATE);
    }

    static void p19LeastAndGreatest() {
        is("they CLOSE", with("n9;s9;").error(0), 0);
        is("a foot in y", with("n9;s8;").error(0), 1);
        is("the other way", with("n8;s9;").error(0), 1);
        is("a foot in x", with("e8;w9;").error(0), 1);
        is("a foot in each", with("e8;w9;n2;s1;").error(0), 2);
        is("as far as can be", with(times("n60;", 12)).error(0), 720);
        is("in both", with(times("w60;s60;", 6)).error(0), 720);
    }

    static void p19CornerDoesntMatter() {
        Hall x = hall();
        x.bounds("n9;s8;", 0, 99, 99);
        is("from 99, 99", x.error(0), 1);
    }

    private static void mended(String text, int sum, int... feet) {
        Hall x = with(text);
        is("mend " + text, x.mend(0), sum);
        for (int i = 0; i < feet.length; i++) is("line " + i + " of " + text, x.about(0, 10 + i) % 100000, feet[i]);
        is("lines of " + text, x.about(0, 5), feet.length);
        if (sum == NONE) return;
        is("they CLOSE: " + text, x.error(0), 0);
        is("again: " + text, x.mend(0), 0);
    }

    static void p20NoSuchLotOrNoBounds() {
        Hall x = hall();
        each("LOT", RANGE, x::mend, beyond(0, 1));
        is("none", x.mend(1), STATE);
    }

    static void p20WhatClosesStays() {
        mended("n9;s9;", 0, 9, 9);
        mended("n9;e4;s9;w4;", 0, 9, 4, 9, 4);
    }

    static void p20NoWay() {
        mended("n1;", NONE, 1);
        mended(times("w60;", 12), NONE, 60, 60, 60, 60, 60, 60, 60, 60, 60, 60, 60, 60);
        mended("n5;s5;e1;", NONE, 5, 5, 1);
        mended("n5;s4;e1;", NONE, 5, 4, 1);
        mended("e5;w4;s1;", NONE, 5, 4, 1);
    }

    static void p20OneFootAtLeast() {
        mended("n5;s1;", 4, 1, 1);
        mended("n5;n1;s1;", 5, 5, 1, 6);
        mended("n6;n1;s1;", 6, 6, 1, 7);
        mended("n7;n1;s2;", 6, 1, 1, 2);
        mended("e1;e1;w1;", 1, 1, 1, 2);
        mended("e2;e1;w2;", 1, 1, 1, 2);
    }

    static void p20HoweverLong() {
        mended(times("n60;", 11) + "s60;", 600, 60, 60, 60, 60, 60, 60, 60, 60, 60, 60, 60, 660);
        mended(times("n60;", 5) + "s1;" + times("e60;", 5) + "w1;", 598, 60, 60, 60, 60, 60, 300, 60, 60, 60, 60, 60, 300);
        Hall x = with(times("n60;", 11) + "s60;");
        x.mend(0);
        is("as about() tells it", x.about(0, 21), 200660);
    }

    static void p20FewestLines() {
        mended("n4;n4;n4;s3;", 9, 4, 4, 4, 12);
        mended("n4;n4;n9;s12;", 5, 4, 4, 4, 12);
    }

    static void p20LeastRow() {
        mended("n5;n5;s7;", 3, 2, 5, 7);
        mended("s7;n5;n5;", 3, 7, 2, 5);
        mended("n2;s1;n1;s1;", 1, 1, 1, 1, 1);
        mended("n1;s1;n1;s1;n1;", 1, 1, 1, 1, 2, 1);
        mended("s2;n5;s1;n1;", 3, 2, 2, 1, 1);
        mended("e3;s2;w5;n5;", 5, 3, 2, 3, 2);
    }

    static void p20OfAnotherLot() {
        Hall x = new Hall();
        x.lots(60);
        x.bounds("s9;n2;w9;e2;", 0, 0, 0);
        for (int l : new int[] {1, 3, 59}) {
            x.bounds("n5;n5;s7;e2;w4;", l, 0, 0);
            is("ERROR of " + l, x.error(l), 5);
            is("mend of " + l, x.mend(l), 5);
            int[] lines = {2, 5, 200007, 100002, 300002};
            for (int i = 0; i < 5; i++) is("line " + i + " of " + l, x.about(l, 10 + i), lines[i]);
        }
        is("the first stays", x.error(0), 14);
        int[] lines = {200009, 2, 300009, 100002};
        for (int i = 0; i < 4; i++) is("line " + i, x.about(0, 10 + i), lines[i]);
    }

    static void p20NoneChangesNothing() {
        Hall x = with("n5;s4;e1;");
        is("no way for x", x.mend(0), NONE);
        is("y stays too", x.error(0), 2);
        is("the first line", x.about(0, 10), 5);
    }

    static void p21NoSuchLotOrNoBounds() {
        Hall x = hall();
        each("LOT", RANGE, x::area, beyond(0, 1));
        is("none", x.area(0), STATE);
    }

    private static void area(String text, int want) {
        Hall x = hall();
        x.bounds(text, 0, 0, 0);
        is("area of " + text, x.area(0), want);
        x.bounds(text, 1, 99, 99);
        is("from another corner " + text, x.area(1), want);
    }

    static void p21LeastAndGreatest() {
        area("n1;e1;s1;w1;", 1);
        area("n60;e60;s60;w60;", 3600);
        area("e1;s60;w1;n60;", 60);
        area("e60;n60;e60;n60;e60;n60;w60;n60;w60;n60;w60;s60;", NONE);
        area("e60;n1;e60;n1;e60;n1;w60;n1;w60;n1;w60;s5;", 60 * 5 + 60 * 3 + 60);
    }

    static void p21WaysRound() {
        String[] rounds = {"nesw", "eswn", "swne", "wnes", "nwse", "wsen", "senw", "enws"};
        for (String r : rounds) {
            StringBuilder text = new StringBuilder();
            for (int i = 0; i < 4; i++) text.append(r.charAt(i)).append(i % 2 == 0 ? 3 : 4).append(';');
            area(text.toString(), 12);
        }
    }

    static void p21MustClose() {
        area("n5;e3;s5;w2;", NONE);
        area("n5;e3;s4;w3;", NONE);
        area("n4;e3;s5;w3;", NONE);
        area("n5;e2;s5;w3;", NONE);
        area("n5;e3;s5;", NONE);
        area("n5;", NONE);
    }

    static void p21MustGoCrosswise() {
        area("n5;s5;", NONE);
        area("n5;s5;n5;s5;", NONE);
        area("n2;n3;e3;s5;w3;", NONE);
        area("e3;n5;w3;s2;s3;", NONE);
        area("n5;e3;s5;w1;w2;", NONE);
        area("n4;e2;w2;s4;", NONE);
    }

    static void p21NoTwoMeet() {
        // They touch at a point, along a line, cross, and end on another; and the like without meeting.
        area("e2;n2;e2;n2;w2;s2;w2;s2;", NONE);
        area("e6;n5;w2;s5;w2;n5;w2;s5;", NONE);
        area("e6;n5;w2;s4;w2;n4;w2;s5;", 30 - 8);
        area("e4;n4;w2;s5;w2;n1;", NONE);
        area("n4;e4;s2;w5;s2;e1;", NONE);
        area("n4;e4;s2;w3;s2;w1;", 8 + 2);
        area("e4;n4;w4;s2;e4;s1;w4;s1;", NONE);
        area("e4;n4;w4;s2;e3;s1;w3;s1;", 16 - 3);
        // The last one alone meets another, and the first one alone.
        area("n2;e2;s4;e2;n2;w4;", NONE);
        area("e2;s2;w4;s2;e2;n4;", NONE);
        area("w4;n2;e2;s4;e2;n2;", NONE);
    }

    static void p21LastAndFirst() {
        area("e4;n3;w2;s2;w2;s1;", 4 + 4);
        area("e4;n3;w3;s3;w1;n3;e4;s3;w4;s3;", NONE);
        area("n3;e3;s3;w6;n3;e3;s3;w3;n3;e3;s3;", NONE);
        area("n2;e2;s4;w4;n2;e2;", 16 - 4);
        area("n3;e3;s5;w3;n2;", NONE);
        area("e1;n3;w3;s3;e2;", NONE);
    }

    static void p21OfMended() {
        Hall x = with(times("n60;e1;", 5) + "s60;w1;");
        is("open", x.area(0), NONE);
        is("mend", x.mend(0), 240 + 4);
        is("a stair", x.area(0), 60 * (5 + 4 + 3 + 2 + 1));
    }

    private static int strip(String a, int ax, int ay, String b, int bx, int by) {
        Hall x = hall();
        x.bounds(a, 0, ax, ay);
        x.bounds(b, 1, bx, by);
        int one = x.strip(0, 1);
        is("the other way", x.strip(1, 0), one);
        return one;
    }

    static void p22NoSuchLots() {
        Hall x = hall();
        x.bounds("n1;e1;s1;w1;", 0, 0, 0);
        x.bounds("n1;e1;s1;w1;", 1, 0, 0);
        each("the first", RANGE, l -> x.strip(l, 1), beyond(0, 1));
        each("the second", RANGE, o -> x.strip(0, o), beyond(0, 1));
        each("both", RANGE, l -> x.strip(l, l), 0, 1, 2, -1);
        is("unlike ones", x.strip(0, 1), 1);
    }

    static void p22NoBounds() {
        Hall x = hall();
        is("both have none", x.strip(0, 1), STATE);
        x.bounds("n1;e1;s1;w1;", 0, 0, 0);
        is("the second", x.strip(0, 1), STATE);
        is("the first", x.strip(1, 0), STATE);
        x.bounds("n1;", 0, 0, 0);
        is("one without an AREA beside it", x.strip(0, 1), STATE);
        is("RANGE ahead of STATE", x.strip(1, 1), RANGE);
    }

    static void p22NoArea() {
        String square = "n1;e1;s1;w1;";
        is("the first", strip("n1;", 0, 0, square, 0, 0), NONE);
        is("the second", strip(square, 0, 0, "n1;s1;", 0, 0), NONE);
        is("both", strip("e1;", 0, 0, "n1;", 0, 0), NONE);
    }

    static void p22BesideAndWithin() {
        String ten = "n10;e10;s10;w10;";
        is("the same ground", strip(ten, 5, 5, ten, 5, 5), 100);
        is("a foot apart", strip(ten, 0, 0, ten, 11, 0), 0);
        is("side by side", strip(ten, 0, 0, ten, 10, 0), 0);
        is("one above the other", strip(ten, 0, 0, ten, 0, 10), 0);
        is("corner at corner", strip(ten, 0, 0, ten, 10, 10), 0);
        is("a foot of both", strip(ten, 0, 0, ten, 9, 9), 1);
        is("a foot wide", strip(ten, 0, 0, ten, 9, 0), 10);
        is("far off", strip(ten, 0, 0, ten, 99, 99), 0);
        is("within", strip(ten, 0, 0, "n1;e1;s1;w1;", 9, 9), 1);
        is("other ways round", strip(ten, 0, 0, "e10;n10;w10;s10;", 0, 0), 100);
        is("below 0", strip("w10;s10;e10;n10;", 0, 0, "s5;w5;n5;e5;", 0, 0), 25);
    }

    static void p22OfTheLastLots() {
        Hall x = new Hall();
        x.lots(60);
        x.bounds("e6;n5;w2;s4;w2;n4;w2;s5;", 58, 0, 0);
        x.bounds("n3;e9;s3;w9;", 59, 0, 0);
        is("AREA of 58", x.area(58), 22);
        is("AREA of 59", x.area(59), 27);
        is("STRIP", x.strip(58, 59), 6 + 8);
        is("the other way", x.strip(59, 58), 6 + 8);
        x.bounds("n2;e1;s2;w1;", 0, 0, 0);
        is("of the first and the last", x.strip(0, 59), 2);
        is("of the last and the first", x.strip(59, 0), 2);
    }

    static void p22BentOnes() {
        String u = "e6;n5;w2;s4;w2;n4;w2;s5;";
        is("between the arms", strip(u, 0, 0, "n4;e2;s4;w2;", 2, 1), 0);
        is("over all", strip(u, 0, 0, "n60;e60;s60;w60;", 0, 0), 22);
        is("across the arms", strip(u, 0, 0, "e6;n1;w6;s1;", 0, 3), 4);
        is("with itself a foot up", strip(u, 0, 0, u, 0, 1), 2 + 8 + 8 - 2);
    }
}
