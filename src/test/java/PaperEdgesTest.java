/** Boundary cases of promises 26 to 32: BURNT ones, PAPERS, MARKS, WEIGHTS, what CAN'T BE, what is SHOWN. */
public final class PaperEdgesTest extends Edges {
    public static void main(String[] args) {
        run(PaperEdgesTest.class, 26, 32);
    }

    /** Persons 0 .. 5 from day 0 on, LOTS 0 and 1, BURNT ones 0 and 1; copies weigh 6, indexes 3, oaths by a mark. */
    private static Hall hall(String more) {
        Hall x = new Hall();
        x.persons(6);
        x.lots(2);
        x.burnts(2);
        x.act("proof copy 6;proof index 3;proof oath 1;proof oath 2 when a is 2;proof oath 4 when a is 4;" + more);
        return x;
    }

    private static void facts(Hall x, int b, int known, int... want) {
        for (int what = 0; what < want.length; what++) is("shown(" + b + ", " + known + ", " + what + ")", x.shown(b, known, what), want[what]);
    }

    static void p26ThirtyAreFull() {
        Hall x = new Hall();
        for (int i = 0; i < 30; i++) is("BURNT one " + i, x.burnt(), i);
        is("the 31st", x.burnt(), FULL);
        is("again", x.burnt(), FULL);
        is("count", x.count(5), 30);
        is("no further one", x.shown(30, 0, 9), NO_SUCH);
        is("the last has a PAPER", x.paper(0, 29, NONE, NONE, NONE, 0, 0), 0);
        is("a 31st has none", x.paper(0, 30, NONE, NONE, NONE, 0, 0), RANGE);
    }

    static void p26NothingIsShownOfANewOne() {
        Hall x = new Hall();
        x.burnt();
        facts(x, 0, 0, NONE, NONE, NONE, 0, 9999, 0, 0, 0, 0, 0);
        facts(x, 0, 9999, NONE, NONE, NONE, 0, 9999, 0, 0, 0, 0, 0);
    }

    static void p26KnownAlways() {
        Hall x = new Hall();
        x.pass(50);
        x.burnt();
        facts(x, 0, 0, NONE, NONE, NONE, 0, 9999, 0, 0, 0, 0, 0);
        is("a day ahead of it", x.shown(0, 49, 9), 0);
    }

    static void p27NoSuchNumbers() {
        Hall x = hall("");
        each("kind", RANGE, n -> x.paper(n, 0, 0, 0, 0, 0, 0), beyond(0, 6));
        each("BURNT one", RANGE, n -> x.paper(0, n, 0, 0, 0, 0, 0), beyond(-1, 1));
        each("who gave", RANGE, n -> x.paper(0, 0, n, 0, 0, 0, 0), beyond(-1, 5));
        each("who got", RANGE, n -> x.paper(0, 0, 0, n, 0, 0, 0), beyond(-1, 5));
        each("LOT", RANGE, n -> x.paper(0, 0, 0, 0, n, 0, 0), beyond(-1, 1));
        is("none came", x.count(6), 0);
        is("the least of each", x.paper(0, NONE, NONE, NONE, NONE, 0, 0), 0);
        is("the greatest of each", x.paper(6, 1, 5, 5, 1, 9999, 9999), 1);
        is("the first of each", x.paper(0, 0, 0, 0, 0, 0, 9999), 2);
    }

    static void p27Span() {
        Hall x = hall("");
        each("from", RANGE, n -> x.paper(0, 0, 0, 0, 0, n, 9999), beyond(0, 9999));
        each("to", RANGE, n -> x.paper(0, 0, 0, 0, 0, 0, n), beyond(0, 9999));
        is("from behind to", x.paper(0, 0, 0, 0, 0, 6, 5), RANGE);
        is("9999 and 0", x.paper(0, 0, 0, 0, 0, 9999, 0), RANGE);
        is("none came", x.count(6), 0);
        is("one day", x.paper(1, 0, 0, 0, 0, 5, 5), 0);
        is("from 5", x.shown(0, 0, 3), 5);
        is("to 5", x.shown(0, 0, 4), 5);
        is("all days", x.paper(1, 1, 0, 0, 0, 0, 9999), 1);
        is("from 0", x.shown(1, 0, 3), 0);
        is("to 9999", x.shown(1, 0, 4), 9999);
    }

    static void p27NoneThereToShow() {
        Hall x = new Hall();
        is("no BURNT one", x.paper(0, 0, NONE, NONE, NONE, 0, 0), RANGE);
        is("nobody gave", x.paper(0, NONE, 0, NONE, NONE, 0, 0), RANGE);
        is("nobody got", x.paper(0, NONE, NONE, 0, NONE, 0, 0), RANGE);
        is("no LOT", x.paper(0, NONE, NONE, NONE, 0, 0, 0), RANGE);
        is("of none, of nothing", x.paper(0, NONE, NONE, NONE, NONE, 0, 0), 0);
    }

    private static int marked(Hall x, String marks) {
        return x.text(marks).paper(1, 0, 0, 1, 0, 0, 9);
    }

    static void p27MarksThatAreNone() {
        Hall x = hall("");
        String[] bad = {"a", "a ", "a=", "a=;", "a=b;", "=1;", "1;", ";", "a;;", "a b;", "a=1 2;", "a==1;", "a+b;", "(a);", "a=1", "A;", "a;?"};
        for (String marks : bad) {
            is(marks, marked(x, marks), NONE);
            is("emptied", x.count(11), 0);
        }
        is("none came", x.count(6), 0);
        is("the first", marked(x, "a;"), 0);
    }

    static void p27EachByteOfMarks() {
        Hall x = hall("");
        int papers = 0;
        for (int c = 0; c < 256; c++) {
            if (c % 48 == 0) {
                x = hall("");
                papers = 0;
            }
            boolean letter = c >= 'a' && c <= 'z';
            is("a mark of byte " + c, marked(x, (char) c + ";"), letter ? papers++ : NONE);
            is("byte " + c + " between", marked(x, "a" + (char) c + "b;"), letter || c == ';' ? papers++ : NONE);
        }
    }

    static void p27EmptiesTheTape() {
        Hall x = hall("");
        is("MARKS", marked(x, "a;b=2;"), 0);
        is("bytes", x.count(11), 0);
        is("the next has none of them", x.paper(1, 0, 0, 1, 0, 0, 9), 1);
    }

    static void p27NoMarks() {
        Hall x = hall("proof copy 9 when a;");
        is("an empty TAPE", marked(x, ""), 0);
        is("blanks", marked(x, " \n "), 1);
        is("a W that isn't told is 0", x.weight(0, 0), 6);
    }

    static void p27TwelveMarks() {
        Hall x = hall("proof copy 9 when l is 5;");
        String twelve = "a;b;c;d;e;f;g;h;i;j;k;l=5;";
        is("thirteen", marked(x, twelve + "m;"), NONE);
        is("thirteen, the last not told whole", marked(x, twelve + "m"), NONE);
        is("twelve", marked(x, twelve), 0);
        is("the twelfth counts", x.weight(0, 0), 9);
        is("twelve and blanks", marked(x, twelve + " \n"), 1);
    }

    static void p27EachWordOnce() {
        Hall x = hall("");
        is("at once", marked(x, "a;a;"), NONE);
        is("with numbers", marked(x, "a=1;a=2;"), NONE);
        is("as the twelfth", marked(x, "a;b;c;d;e;f;g;h;i;j;k;a;"), NONE);
        is("the last twice", marked(x, "a;b;c;d;e;f;g;h;i;j;k;k;"), NONE);
        is("unlike ones", marked(x, "a;aa;aaa;"), 0);
        is("again in the next PAPER", marked(x, "a;aa;aaa;"), 1);
    }

    static void p27NumbersOfMarks() {
        Hall x = hall("proof copy 9 when big is 9999;proof copy 8 when nil is 0 and nil + one is 1;proof copy 7 when four is 7;");
        is("9999", marked(x, "big=9999;"), 0);
        is("0 and 1 if none is told", marked(x, "nil=0;one;"), 1);
        is("0007", marked(x, "four=0007;"), 2);
        int[] weights = {9, 8, 7};
        for (int k = 0; k < 3; k++) is("weight of " + k, x.weight(k, 0), weights[k]);
        is("10000", marked(x, "big=10000;"), NONE);
        is("00000", marked(x, "big=00000;"), NONE);
    }

    static void p27LettersOfMarks() {
        Hall x = hall("proof copy 9 when abcdefghijkl;");
        is("twelve letters", marked(x, "abcdefghijkl;"), 0);
        is("it is told", x.weight(0, 0), 9);
        is("thirteen", marked(x, "abcdefghijklm;"), NONE);
        is("words that no TERM is", marked(x, "or;and;not;above;below;is;when;"), 1);
        is("blanks between", marked(x, " a \n = \n 5 ; "), 2);
    }

    static void p27WordsNumbersAndSignsOfMarks() {
        Hall x = hall("proof copy 9 when ah is 59 and ai is 61 and ak;");
        is("each its own", marked(x, "ah=59;ai=61;ak=40;"), 0);
        is("WEIGHT", x.weight(0, 0), 9);
        for (String marks : new String[] {"a 59", "a 61 5;", "59;", "61;", "a=ah;", "a=5 59", "a ah 5;"}) is(marks, marked(x, marks), NONE);
    }

    static void p27Full() {
        Hall x = hall("");
        for (int i = 0; i < 120; i++) is("PAPER " + i, x.paper(1, 1, 0, 1, 0, 0, 9), i);
        is("the 121st", x.paper(1, 0, 0, 1, 0, 0, 9), FULL);
        is("nothing is SHOWN by it", x.shown(0, 0, 1), NONE);
        is("NONE ahead of FULL", marked(x, "a;a;"), NONE);
        is("FULL with MARKS", marked(x, "a;"), FULL);
        is("emptied", x.count(11), 0);
        is("RANGE ahead of both", x.text("?").paper(7, 0, 0, 1, 0, 0, 9), RANGE);
        is("emptied", x.count(11), 0);
        is("PAPERS", x.count(6), 120);
        is("the last", x.weight(119, 0), 6);
        is("no further one", x.weight(120, 0), RANGE);
        is("sums of all", x.shown(1, 0, 8), 720);
    }

    static void p27RangeAheadOfNone() {
        Hall x = hall("");
        is("a text that is none", x.text("?").paper(0, 0, 0, 0, 2, 0, 0), RANGE);
        is("emptied", x.count(11), 0);
        is("sound MARKS", x.text("a;").paper(0, 0, 0, 0, 0, 1, 0), RANGE);
        is("emptied", x.count(11), 0);
    }

    static void p28NoSuchNumbers() {
        Hall x = hall("");
        x.paper(1, 0, 0, 1, 0, 0, 9);
        x.paper(1, 0, 0, 1, 0, 0, 9);
        each("PAPER", RANGE, n -> x.written(n, 0, 0, 0, 0), beyond(0, 1));
        each("HAND", RANGE, n -> x.written(0, n, 0, 0, 0), beyond(0, 5));
        each("day", RANGE, n -> x.written(0, 0, n, 0, 0), beyond(0, 9999));
        each("BOOK", RANGE, n -> x.written(0, 0, 0, n, 0), beyond(0, 9));
        each("PAGE", RANGE, n -> x.written(0, 0, 0, 0, n), beyond(0, 99));
        is("the least", x.written(0, 0, 0, 0, 0), 1);
        is("the greatest", x.written(1, 5, 9999, 9, 99), 1);
    }

    static void p28ToldOnce() {
        Hall x = hall("");
        x.paper(1, 0, 0, 1, 0, 0, 9);
        x.dead(2, 5);
        is("told", x.written(0, 2, 5, 0, 0), 1);
        is("again", x.written(0, 2, 5, 0, 0), STATE);
        is("otherwise", x.written(0, 2, 6, 0, 0), STATE);
        is("RANGE ahead of STATE", x.written(0, 2, 6, 10, 0), RANGE);
        is("the first stays", x.cant(0, 0), 0);
    }

    static void p28RefusedLeavesItUntold() {
        Hall x = hall("");
        x.paper(1, 0, 0, 1, 0, 0, 9);
        x.dead(2, 5);
        is("RANGE", x.written(0, 2, 6, 0, 100), RANGE);
        is("it can be", x.cant(0, 0), 0);
        is("then told", x.written(0, 2, 6, 0, 99), 1);
        is("it can't", x.cant(0, 0), 1);
    }

    static void p28StaysWhateverIsWeighed() {
        Hall x = hall("");
        x.pages(1);
        x.dead(5, 60);
        for (int k = 0; k < 4; k++) x.text("a=9999;b=7;").paper(1, 0, 0, 1, 0, 0, 9);
        x.written(0, 5, 60, 3, 4);
        x.written(1, 5, 61, 3, 5);
        x.written(2, 4, 60, 3, 4);
        x.act("proof copy 5 when a + a + a above b + b and (b is 7 or a) and not (a is b or b above a);");
        x.text("b=3;").paper(1, 0, 0, 1, 0, 0, 9);
        int[] cant = {0, 1, 5, 0, 0};
        for (int k = 0; k < cant.length; k++) is("PAPER " + k, x.cant(k, 0), cant[k]);
        is("still told", x.written(0, 5, 60, 3, 4), STATE);
        is("still not told", x.written(3, 5, 60, 3, 4), 1);
        is("on a full PAGE", x.cant(3, 0), 5);
    }

    static void p29OneToForty() {
        Hall x = new Hall();
        each("pages", RANGE, x::pages, beyond(1, 40));
        is("20 at first", x.pages(1), 20);
        is("1", x.pages(40), 1);
        is("RANGE leaves it", x.pages(41), RANGE);
        is("40", x.pages(40), 40);
        is("0 leaves it", x.pages(0), RANGE);
        is("40 still", x.pages(20), 40);
    }

    static void p29TwentyAtFirst() {
        Hall x = hall("");
        for (int k = 0; k < 22; k++) {
            x.paper(1, 0, 0, 1, 0, 0, 9);
            x.written(k, 0, 0, 9, 99);
        }
        is("the 20th", x.cant(19, 0), 0);
        is("the 21st", x.cant(20, 0), 5);
        is("the 22nd", x.cant(21, 0), 5);
        x.pages(21);
        is("21 hold the 21st", x.cant(20, 0), 0);
        is("not the 22nd", x.cant(21, 0), 5);
        x.pages(1);
        is("1 holds the first", x.cant(0, 0), 0);
        is("not the second", x.cant(1, 0), 5);
    }

    static void p29FortyHoldForty() {
        Hall x = hall("");
        x.pages(40);
        for (int k = 0; k < 41; k++) {
            x.paper(1, 0, 0, 1, 0, 0, 9);
            x.written(k, 0, 0, 0, 0);
        }
        is("the 40th", x.cant(39, 0), 0);
        is("the 41st", x.cant(40, 0), 5);
        is("SHOWN by forty", x.shown(0, 0, 8), 240);
    }

    static void p29HoldsOnAllDays() {
        Hall x = hall("");
        for (int k = 0; k < 2; k++) {
            x.paper(1, 0, 0, 1, 0, 0, 9);
            x.written(k, 0, 0, 3, 4);
        }
        x.pass(50);
        x.pages(1);
        is("as KNOWN on a day ahead of its telling", x.cant(1, 0), 5);
        x.pages(2);
        is("told anew", x.cant(1, 0), 0);
        is("as KNOWN today", x.cant(1, 50), 0);
    }

    static void p30NoSuchPaperOrDay() {
        Hall x = hall("");
        is("none at all", x.weight(0, 0), RANGE);
        x.paper(1, NONE, NONE, NONE, NONE, 0, 0);
        x.paper(2, NONE, NONE, NONE, NONE, 0, 0);
        each("PAPER", RANGE, k -> x.weight(k, 0), beyond(0, 1));
        each("day", RANGE, day -> x.weight(0, day), beyond(0, 9999));
        is("the first", x.weight(0, 0), 6);
        is("the last on the last day", x.weight(1, 9999), 3);
    }

    static void p30AheadOfAnyAct() {
        Hall x = new Hall();
        x.paper(1, NONE, NONE, NONE, NONE, 0, 0);
        is("no ACT", x.weight(0, 9999), 0);
        x.pass(10);
        x.act("proof copy 6;");
        is("a day ahead", x.weight(0, 9), 0);
        is("that day", x.weight(0, 10), 6);
        is("the last", x.weight(0, 9999), 6);
        x.paper(1, NONE, NONE, NONE, NONE, 0, 0);
        is("by the ACT of a day ahead of its own", x.weight(1, 9), 0);
        is("of its own", x.weight(1, 10), 6);
    }

    static void p30ByEachOfEightActs() {
        Hall x = new Hall();
        x.text("a;").paper(1, NONE, NONE, NONE, NONE, 0, 0);
        for (int i = 1; i <= 8; i++) {
            x.pass(1);
            is("ACT " + i, x.act("proof copy " + 10 * i + " when a;proof copy " + i + " when not a;"), 2);
        }
        x.paper(1, NONE, NONE, NONE, NONE, 0, 0);
        for (int i = 0; i <= 8; i++) {
            is("on day " + i, x.weight(0, i), 10 * i);
            is("of a later PAPER on day " + i, x.weight(1, i), i);
        }
        is("on the last day", x.weight(0, 9999), 80);
    }

    static void p30CondsOfEachAct() {
        Hall x = new Hall();
        String[] conds = {"a", "not a and not b", "b is 2 or c", "a + b above 2", "a above 0 and (b or c)"};
        for (String cond : conds) {
            x.pass(1);
            is(cond, x.act("proof copy 7 when " + cond + ";proof copy 9 when (" + cond + ") and z;"), 2);
        }
        String[] marks = {"a;", "", "b=2;", "a;b=2;", "a;c;z;"};
        int[][] weights = {{7, 0, 0, 0, 0}, {0, 7, 0, 0, 0}, {0, 0, 7, 0, 0}, {7, 0, 7, 7, 7}, {9, 0, 9, 0, 9}};
        for (int k = 0; k < marks.length; k++) {
            x.text(marks[k]).paper(1, NONE, NONE, NONE, NONE, 0, 0);
            for (int i = 0; i < conds.length; i++) is(marks[k] + " by " + conds[i], x.weight(k, i + 1), weights[k][i]);
        }
    }

    static void p30LeastAndGreatestWeight() {
        Hall x = new Hall();
        x.act("proof copy 99;proof index 0;proof tax 5;proof tax 0;");
        for (int kind : new int[] {1, 2, 4, 0}) x.paper(kind, NONE, NONE, NONE, NONE, 0, 0);
        int[] weights = {99, 0, 0, 0};
        for (int k = 0; k < 4; k++) is("weight of " + k, x.weight(k, 0), weights[k]);
    }

    private static void holds(String cond, String marks, boolean want) {
        Hall x = new Hall();
        x.act("proof copy 7 when " + cond + ";");
        x.text(marks).paper(1, NONE, NONE, NONE, NONE, 0, 0);
        is(cond + " of " + marks, x.weight(0, 0), want ? 7 : 0);
    }

    static void p30SumAlone() {
        holds("a", "a=1;", true);
        holds("a", "a=0;", false);
        holds("a", "a;", true);
        holds("a", "", false);
        holds("0", "", false);
        holds("1", "", true);
        holds("a+b+0", "a=0;b=0;", false);
        holds("a+b+c", "c=1;", true);
        holds("a and b", "a=2;b=1;", true);
        holds("a and b is 1", "a=4;b=1;", true);
        holds("a and b above 0 and c below 1", "a=4;b=8;", true);
        holds("not c and b", "b=6;", true);
    }

    static void p30AboveBelowIs() {
        holds("a above 5", "a=6;", true);
        holds("a above 5", "a=5;", false);
        holds("a below 5", "a=4;", true);
        holds("a below 5", "a=5;", false);
        holds("a is 5", "a=5;", true);
        holds("a is 5", "a=4;", false);
        holds("a is 5", "a=6;", false);
        holds("a above 5", "a=4;", false);
        holds("a below 5", "a=6;", false);
        holds("b and a above 5", "b;a=4;", false);
        holds("a above 5 and b", "b;a=4;", false);
        holds("b and a below 5", "b;a=6;", false);
        holds("a below 5 and b", "b;a=6;", false);
        holds("b and a is 5", "b;a=4;", false);
        holds("b or a above 5", "a=4;", false);
        holds("a is 0", "", true);
        holds("a above b + 1", "a=2;b=1;", false);
        holds("a below b + 1", "a=1;b=1;", true);
        holds("9999 + 9999 + 9999 above a + b", "a=9999;b=9999;", true);
    }

    static void p30NotAndOr() {
        holds("a or b and c", "a;", true);
        holds("(a or b) and c", "a;", false);
        holds("a and b or c", "c;", true);
        holds("a and (b or c)", "c;", false);
        holds("not a or b", "b;a;", true);
        holds("not (a or b)", "b;", false);
        holds("not a and b", "b;", true);
        holds("not a and b", "", false);
        holds("not not a", "a;", true);
        holds("not a is 0", "", false);
        holds("a or b", "a;b;", true);
        holds("a or b or c", "a;b;c;", true);
        holds("not (a or b)", "a;b;", false);
        holds("(a or b) and c", "a;b;c;", true);
        holds("c and (a or b)", "a;b;c;", true);
        holds("(a or b) and (a or c)", "a;b;c;", true);
        holds("a and b or a and c", "a;b;c;", true);
        holds("a or b or c", "b;", true);
        holds("a or b or c", "", false);
        holds("a and b and c", "a;b;c;", true);
        holds("a and b and c", "a;c;", false);
        holds("(a and (b or not (c and (d or not e))))", "a;c;e=0;", false);
        holds("(a and (b or not (c and (d or not e))))", "a;c;e;", true);
    }

    /** As much waits for the innermost TEST as can: five ( open, an or and an and ahead of each. */
    static void p30DeepestCond() {
        String inner = "p or q + r + s is t + u + v";
        String outer = "a or b and (";
        String cond = times(outer, 5) + inner + times(")", 5);
        holds(cond, "b;q=1;r=2;s=3;t=3;u=2;v=1;", true);
        holds(cond, "b;q=1;r=2;s=3;t=3;u=2;v=2;", false);
        holds(cond, "b;p;v=2;", true);
        holds(cond, "q=1;v=1;", false);
        holds(cond, "a;", true);
        holds(times("a and not (", 5) + inner + times(")", 5), "a;q=1;v=1;", false);
        holds(times("a and not (", 5) + inner + times(")", 5), "a;q=1;v=2;", true);
    }

    /** An ACT of some 1000 bytes: each of its CONDS is kept whole, the last too. */
    static void p30LongestAct() {
        StringBuilder text = new StringBuilder();
        for (int i = 1; i <= 24; i++) text.append("proof tax ").append(10 + i).append(" when a+b+c is ").append(i).append(" and z;");
        Hall x = new Hall();
        is("clauses", x.act(text.toString()), 24);
        int[] picks = {1, 2, 12, 23, 24, 25};
        for (int k = 0; k < picks.length; k++) {
            x.text("a=" + (picks[k] - 1) + ";b=0;c=1;z;").paper(4, NONE, NONE, NONE, NONE, 0, 0);
            is("sum " + picks[k], x.weight(k, 0), picks[k] <= 24 ? 10 + picks[k] : 0);
        }
    }

    static void p30LastProofThatHolds() {
        Hall x = new Hall();
        x.act("proof copy 1 when a;proof copy 2 when b;proof copy 3 when c;proof index 9;");
        String[] marks = {"a;", "a;b;", "a;b;c;", "a;c;", "b;", ""};
        int[] weights = {1, 2, 3, 3, 2, 0};
        for (int k = 0; k < marks.length; k++) {
            x.text(marks[k]).paper(1, NONE, NONE, NONE, NONE, 0, 0);
            is(marks[k], x.weight(k, 0), weights[k]);
        }
    }

    static void p30WhetherItCanBeOrNot() {
        Hall x = hall("");
        x.paper(1, 0, 5, 1, 0, 20, 30);
        x.dead(5, 0);
        is("it can't be", x.cant(0, 0), 3);
        is("its WEIGHT", x.weight(0, 0), 6);
        x.pass(9);
        x.paper(1, 0, 0, 1, 0, 20, 30);
        is("of a day on which it wasn't KNOWN", x.weight(1, 0), 6);
    }

    static void p31NoSuchPaperOrDay() {
        Hall x = hall("");
        is("none at all", x.cant(0, 0), RANGE);
        x.paper(1, 0, 0, 1, 0, 0, 9);
        x.paper(1, 0, 0, 1, 0, 0, 9);
        each("PAPER", RANGE, k -> x.cant(k, 0), beyond(0, 1));
        each("day", RANGE, known -> x.cant(0, known), beyond(0, 9999));
        is("the first day", x.cant(0, 0), 0);
        is("the last", x.cant(1, 9999), 0);
    }

    static void p31HandDeadAheadOfTheDay() {
        int[] deaths = {19, 20, 21, 0, 9999};
        int[] cant = {1, 0, 0, 1, 0};
        for (int i = 0; i < deaths.length; i++) {
            Hall x = hall("");
            x.paper(1, 0, 0, 1, 0, 0, 9);
            x.written(0, 3, 20, 0, 0);
            is("it can be", x.cant(0, 0), 0);
            x.dead(3, deaths[i]);
            is("DEAD from " + deaths[i], x.cant(0, 0), cant[i]);
        }
    }

    static void p31HandLivesFromADayBehind() {
        int[] from = {19, 20, 21, 0, 9999};
        int[] cant = {0, 0, 1, 0, 1};
        for (int i = 0; i < from.length; i++) {
            Hall x = hall("");
            int hand = x.person(from[i]);
            x.paper(1, 0, 0, 1, 0, 0, 9);
            x.written(0, hand, 20, 0, 0);
            is("lives from " + from[i], x.cant(0, 0), cant[i]);
        }
    }

    static void p31HandOnTheFirstAndLastDay() {
        Hall x = hall("");
        x.dead(0, 0);
        int late = x.person(9999);
        x.paper(1, 0, NONE, NONE, NONE, 0, 9);
        x.paper(1, 0, NONE, NONE, NONE, 0, 9);
        x.written(0, 0, 0, 0, 0);
        x.written(1, late, 9999, 0, 0);
        is("DEAD from 0, written on 0", x.cant(0, 0), 0);
        is("from 9999, written on 9999", x.cant(1, 0), 0);
    }

    private static int ofLot(int came, int gone, int from, int to) {
        Hall x = new Hall();
        x.lot(10, came);
        if (gone != NONE) x.split(0, gone, 2, 5, 5, 0, 0);
        x.paper(1, NONE, NONE, NONE, 0, from, to);
        return x.cant(0, 0);
    }

    static void p31LotThereOnNoDay() {
        is("ends a day ahead", ofLot(100, NONE, 50, 99), 2);
        is("ends on the day on which it came", ofLot(100, NONE, 50, 100), 0);
        is("begins a day ahead of its end", ofLot(100, 200, 199, 300), 0);
        is("begins on the day of its end", ofLot(100, 200, 200, 300), 2);
        is("begins behind its end", ofLot(100, 200, 201, 300), 2);
        is("long behind it", ofLot(100, 200, 5000, 9999), 2);
        is("one day, the last", ofLot(100, 200, 199, 199), 0);
        is("one day, that of its end", ofLot(100, 200, 200, 200), 2);
        is("one day, the first", ofLot(100, 200, 100, 100), 0);
        is("all its days", ofLot(100, 200, 0, 9999), 0);
        is("there on no day at all", ofLot(100, 100, 0, 9999), 2);
        is("there on one day", ofLot(100, 101, 0, 9999), 0);
        is("from the last day on", ofLot(9999, NONE, 9999, 9999), 0);
        is("ahead of the last day", ofLot(9999, NONE, 0, 9998), 2);
    }

    static void p31LotsAreKnownAlways() {
        Hall x = new Hall();
        x.lots(1);
        x.paper(1, NONE, NONE, NONE, 0, 60, 70);
        x.pass(100);
        is("it is there", x.cant(0, 0), 0);
        x.split(0, 60, 2, 5, 5, 0, 0);
        is("its SPLIT, told later, counts as KNOWN on day 0", x.cant(0, 0), 2);
        x.paper(1, NONE, NONE, NONE, 1, 60, 70);
        is("so do LOTS that came of it", x.cant(1, 0), 0);
        x.lot(10, 65);
        x.paper(1, NONE, NONE, NONE, 3, 60, 64);
        is("so does the first day of another", x.cant(2, 0), 2);
    }

    static void p31HandToldLater() {
        Hall x = hall("");
        int young = x.person(80);
        x.paper(1, 0, 0, 1, 0, 0, 9);
        x.pass(40);
        is("nothing told: passed by", x.cant(0, 0), 0);
        x.written(0, young, 79, 0, 0);
        is("told: it can't be, on day 0 too", x.cant(0, 0), 1);
        is("nor today", x.cant(0, 40), 1);
    }

    static void p31LotJoined() {
        Hall x = new Hall();
        x.lots(2);
        x.join(2, 0, 1, 0, 0, 200, 20);
        x.paper(1, NONE, NONE, NONE, 1, 199, 199);
        x.paper(1, NONE, NONE, NONE, 1, 200, 200);
        x.paper(1, NONE, NONE, NONE, 2, 199, 199);
        x.paper(1, NONE, NONE, NONE, 2, 200, 200);
        int[] cant = {0, 2, 2, 0};
        for (int k = 0; k < 4; k++) is("PAPER " + k, x.cant(k, 0), cant[k]);
    }

    /** Of who gave (3) and who got (4): a death or a first day, against a span of 20 .. 30. */
    private static void giverOrTaker(int reason) {
        int[] deaths = {0, 19, 20, 30, 31, 9999};
        for (int death : deaths) {
            Hall x = hall("");
            x.paper(1, 0, reason == 3 ? 5 : 0, reason == 4 ? 5 : 0, 0, 20, 30);
            x.dead(5, death);
            is("DEAD from " + death, x.cant(0, 0), death < 20 ? reason : 0);
        }
        for (int from : new int[] {0, 19, 20, 30, 31, 9999}) {
            Hall x = hall("");
            int p = x.person(from);
            x.paper(1, 0, reason == 3 ? p : 0, reason == 4 ? p : 0, 0, 20, 30);
            is("lives from " + from, x.cant(0, 0), from > 30 ? reason : 0);
        }
        Hall x = hall("");
        x.dead(5, 0);
        x.paper(1, 0, reason == 3 ? 5 : 0, reason == 4 ? 5 : 0, 0, 0, 0);
        is("DEAD from day 0, a span of day 0", x.cant(0, 0), 0);
    }

    static void p31WhoGave() {
        giverOrTaker(3);
    }

    static void p31WhoGot() {
        giverOrTaker(4);
    }

    static void p31DeadThroughOne() {
        Hall x = hall("");
        x.paper(1, 0, 1, 0, 0, 20, 30);
        x.dead(2, 19);
        is("another's death", x.cant(0, 0), 0);
        x.pass(1);
        x.same(1, 2);
        is("that of one with it", x.cant(0, 1), 3);
        is("not KNOWN yet", x.cant(0, 0), 0);
        int young = x.person(31);
        x.same(0, young);
        is("the first day of another doesn't count", x.cant(0, 1), 3);
        x.paper(1, 0, 0, 0, 0, 20, 30);
        is("nor for this", x.cant(1, 1), 0);
    }

    /** Terms III: from which day one lives is its own, whoever is ONE with it. */
    static void p31OwnFirstDay() {
        Hall x = new Hall();
        int young = x.person(80);
        int old = x.person(0);
        x.same(young, old);
        for (int reason : new int[] {3, 4}) {
            for (int p : new int[] {young, old}) {
                int k = x.paper(1, NONE, reason == 3 ? p : NONE, reason == 4 ? p : NONE, NONE, 20, 79);
                is("reason " + reason + " of " + p, x.cant(k, 0), p == young ? reason : 0);
            }
        }
        for (int p : new int[] {young, old}) {
            int k = x.paper(1, NONE, NONE, NONE, NONE, 20, 79);
            x.written(k, p, 79, 0, 0);
            is("HAND " + p, x.cant(k, 0), p == young ? 1 : 0);
        }
    }

    static void p31PageOfABook() {
        Hall x = hall("");
        x.pages(1);
        int[][] leaves = {{0, 0}, {0, 1}, {1, 0}, {9, 99}, {0, 10}, {1, 1}, {0, 0}, {9, 99}, {8, 99}, {0, 99}, {9, 0}, {0, 9}};
        for (int k = 0; k < leaves.length; k++) {
            x.paper(1, 0, 0, 1, 0, 0, 9);
            x.written(k, 0, 0, leaves[k][0], leaves[k][1]);
            is("PAPER " + k, x.cant(k, 0), k == 6 || k == 7 ? 5 : 0);
        }
        x.paper(1, 0, 0, 1, 0, 0, 9);
        is("what isn't told is passed by", x.cant(leaves.length, 0), 0);
    }

    /** PAPERS whose PAGE isn't told are on none, not on the first of all. */
    static void p31PagesNotTold() {
        Hall x = hall("");
        x.pages(1);
        for (int k = 0; k < 5; k++) x.paper(1, 0, 0, 1, 0, 0, 9);
        x.written(1, 3, 5, 0, 0);
        is("none told ahead of it", x.cant(1, 0), 0);
        x.written(3, 4, 5, 0, 0);
        is("one told ahead of it", x.cant(3, 0), 5);
        x.pages(2);
        is("two fit", x.cant(3, 0), 0);
        x.written(4, 5, 5, 0, 0);
        is("not three", x.cant(4, 0), 5);
        is("one not told itself", x.cant(2, 0), 0);
    }

    static void p31PageByLesserNumbers() {
        Hall x = hall("");
        x.pages(1);
        x.paper(1, 0, 0, 1, 0, 0, 9);
        x.paper(1, 0, 0, 1, 0, 0, 9);
        x.written(1, 0, 0, 0, 0);
        is("alone", x.cant(1, 0), 0);
        x.written(0, 0, 0, 0, 0);
        is("one with a lesser number", x.cant(1, 0), 5);
        is("a greater one doesn't count", x.cant(0, 0), 0);
    }

    static void p31PageOfThoseKnownByThen() {
        Hall x = hall("");
        x.pages(1);
        x.pass(10);
        x.paper(1, 0, 0, 1, 0, 0, 9);
        x.paper(1, 0, 0, 1, 0, 0, 9);
        x.written(0, 0, 0, 0, 0);
        x.written(1, 0, 0, 0, 0);
        is("a day ahead", x.cant(1, 9), 0);
        is("that day", x.cant(1, 10), 5);
        x.dead(0, 0);
        x.written(0, 0, 0, 0, 0);
        x.paper(1, 0, 0, 1, 0, 9, 9);
        x.paper(1, 0, 1, 1, 0, 9, 9);
        x.written(2, 1, 0, 5, 5);
        x.written(3, 1, 0, 5, 5);
        is("the lesser one can't be", x.cant(2, 10), 3);
        is("it counts all the same", x.cant(3, 10), 5);
    }

    static void p31FirstOfMoreReasons() {
        Hall x = hall("");
        x.pages(1);
        x.dead(0, 5);
        x.dead(1, 5);
        x.dead(2, 5);
        x.lot(10, 500);
        x.paper(1, 0, NONE, NONE, NONE, 0, 0);
        x.written(0, 3, 0, 0, 0);
        int[][] rows = {{2, 2, 0, 1}, {3, 2, 0, 1}, {3, NONE, 0, 1}, {3, NONE, NONE, 1}, {3, NONE, NONE, NONE}};
        for (int i = 0; i < rows.length; i++) {
            int[] r = rows[i];
            x.paper(1, 0, r[2], r[3], r[1], 10, 20);
            x.written(i + 1, r[0], 10, 0, 0);
            is("reason " + (i + 1), x.cant(i + 1, 0), i + 1);
        }
    }

    static void p32NoSuchNumbers() {
        Hall x = hall("");
        each("BURNT one", NO_SUCH, b -> x.shown(b, 0, 0), beyond(0, 1));
        each("day", NO_SUCH, known -> x.shown(0, known, 0), beyond(0, 9999));
        each("what", NO_SUCH, what -> x.shown(0, 0, what), beyond(0, 9));
        is("the least", x.shown(0, 0, 0), NONE);
        is("the greatest", x.shown(1, 9999, 9), 0);
    }

    static void p32LeastOrMore() {
        int[] least = {0, 1, 5, 6, 7, 999};
        for (int n : least) {
            Hall x = hall("least " + n + ";");
            x.paper(1, 0, 0, 1, 0, 10, 20);
            if (n <= 6) facts(x, 0, 0, 0, 1, 0, 10, 20, 6, 6, 6, 6, 0); else facts(x, 0, 0, NONE, NONE, NONE, 10, 20, 0, 0, 0, 0, 0);
        }
    }

    static void p32AboveZero() {
        Hall x = hall("least 0;");
        x.paper(0, 0, 0, 1, 0, 10, 20);
        facts(x, 0, 0, NONE, NONE, NONE, 0, 9999, 0, 0, 0, 0, 0);
        x.paper(0, 0, 2, 3, 1, 10, 20);
        facts(x, 0, 0, NONE, NONE, NONE, 0, 9999, 0, 0, 0, 0, 0);
    }

    static void p32OneIsAboveZero() {
        for (int least : new int[] {0, 1}) {
            Hall x = hall("");
            x.act("proof copy 1;least " + least + ";");
            x.paper(1, 0, 0, 1, 0, 10, 20);
            facts(x, 0, 0, 0, 1, 0, 10, 20, 1, 1, 1, 1, 0);
        }
    }

    static void p32LeastOfTheSum() {
        Hall x = hall("least 9;");
        x.paper(1, 0, 0, 1, 0, 10, 20);
        facts(x, 0, 0, NONE, NONE, NONE, 10, 20, 0, 0, 0, 0, 0);
        x.paper(2, 0, 0, 2, NONE, 10, 20);
        facts(x, 0, 0, 0, NONE, NONE, 10, 20, 9, 0, 0, 0, 0);
    }

    static void p32TwoHaveTheGreatest() {
        Hall x = hall("");
        x.paper(1, 0, 0, 1, 0, 10, 20);
        x.paper(2, 0, 2, 3, 1, 10, 20);
        facts(x, 0, 0, 0, 1, 0, 10, 20, 6, 6, 6, 6, 0);
        x.paper(2, 0, 2, 3, 1, 10, 20);
        facts(x, 0, 0, NONE, NONE, NONE, 10, 20, 0, 0, 0, 0, 7);
        x.paper(2, 0, 2, NONE, NONE, 10, 20);
        facts(x, 0, 0, 2, NONE, NONE, 10, 20, 9, 0, 0, 0, 6);
        x.paper(2, 0, NONE, 4, NONE, 10, 20);
        x.paper(2, 0, NONE, 4, NONE, 10, 20);
        facts(x, 0, 0, 2, NONE, NONE, 10, 20, 9, 0, 0, 0, 6);
    }

    static void p32GreatestInAnyOrder() {
        int[][] orders = {{0, 1, 2}, {0, 2, 1}, {1, 0, 2}, {1, 2, 0}, {2, 0, 1}, {2, 1, 0}};
        for (int[] order : orders) {
            Hall x = hall("proof plate 2;");
            x.paper(1, 1, 5, 5, 0, 0, 9);
            int[] kinds = {5, 2, 1};
            for (int i : order) x.paper(kinds[i], 0, 4 - order[i], 1 + order[i], i % 2, 10, 20);
            int best = order[2];
            is("who gave", x.shown(0, 0, 0), 4 - best);
            is("who got", x.shown(0, 0, 1), 1 + best);
            is("POINTS", x.shown(0, 0, 5), 6);
            is("no QUARREL", x.shown(0, 0, 9), 0);
        }
    }

    static void p32OnlyOathsAreLimited() {
        for (int kind = 0; kind < 7; kind++) {
            Hall x = new Hall();
            x.persons(2);
            x.lots(1);
            x.burnts(2);
            x.act("proof deed 3;proof copy 3;proof index 3;proof oath 3;proof tax 3;proof plate 3;proof abstract 3;oaths 1;");
            for (int i = 0; i < 3; i++) x.paper((kind + 1 + i) % 7, 1, 1, 0, 0, 0, 5);
            for (int i = 0; i < 3; i++) x.paper(kind, 0, 0, 1, 0, 10, 20);
            int sum = kind == 3 ? 3 : 9;
            facts(x, 0, 0, 0, 1, 0, 10, 20, sum, sum, sum, sum, 0);
        }
    }

    static void p32SaidByTheLastOfMany() {
        Hall x = hall("");
        for (int i = 0; i < 40; i++) x.paper(0, 0, 1, 2, 1, 0, 9999);
        x.paper(2, 0, 3, 4, 0, 10, 20);
        facts(x, 0, 0, 3, 4, 0, 10, 20, 3, 3, 3, 3, 0);
        x.paper(1, 0, 1, 2, 1, 10, 20);
        facts(x, 0, 0, 1, 2, 1, 10, 20, 6, 6, 6, 6, 0);
    }

    static void p32WithoutThoseThatDontFitAPage() {
        Hall x = hall("");
        x.pages(1);
        x.pass(100);
        for (int k = 0; k < 3; k++) {
            x.paper(1, 0, 0, 1, 0, 10 + 5 * k, 40);
            x.written(k, 5, 50, 7, 70);
        }
        facts(x, 0, 100, 0, 1, 0, 10, 40, 6, 6, 6, 6, 0);
        facts(x, 0, 99, NONE, NONE, NONE, 0, 9999, 0, 0, 0, 0, 0);
        x.pages(2);
        facts(x, 0, 100, 0, 1, 0, 15, 40, 12, 12, 12, 12, 0);
    }

    static void p32OfTheLastBurntOne() {
        Hall x = new Hall();
        x.persons(4);
        x.lots(2);
        x.burnts(30);
        x.act("proof copy 6;proof oath 2;oaths 1;");
        x.paper(0, 0, 2, 3, 1, 0, 5);
        x.paper(0, 0, 2, 3, 1, 0, 5);
        x.paper(1, 29, 0, 1, 0, 10, 20);
        x.paper(3, 29, 0, 1, 0, 15, 30);
        x.paper(3, 29, 0, 1, 0, 12, 30);
        facts(x, 29, 0, 0, 1, 0, 15, 20, 8, 8, 8, 8, 0);
        x.paper(1, 29, 2, 3, 1, 40, 50);
        x.paper(3, 29, 2, 3, 1, 40, 50);
        facts(x, 29, 0, NONE, NONE, NONE, 0, 9999, 0, 0, 0, 0, 15);
        facts(x, 0, 0, NONE, NONE, NONE, 0, 9999, 0, 0, 0, 0, 0);
        facts(x, 28, 0, NONE, NONE, NONE, 0, 9999, 0, 0, 0, 0, 0);
    }

    static void p32QuarrelBelowLeastIsNone() {
        Hall x = hall("least 7;");
        x.paper(1, 0, 0, 1, 0, 10, 20);
        x.paper(1, 0, 2, 3, 1, 10, 20);
        facts(x, 0, 0, NONE, NONE, NONE, 10, 20, 0, 0, 0, 0, 0);
        x.pass(1);
        x.act("proof copy 7;least 7;");
        facts(x, 0, 1, NONE, NONE, NONE, 10, 20, 0, 0, 0, 0, 7);
    }

    private static void oath(Hall x, int mark, int got) {
        x.text("a=" + mark + ";").paper(3, 0, 0, got, 0, 0, 50);
    }

    static void p32AtMostSoManyOaths() {
        int[] points = {0, 4, 6, 7, 7};
        int[] oaths = {0, 1, 2, 3, 20};
        for (int i = 0; i < oaths.length; i++) {
            Hall x = hall("oaths " + oaths[i] + ";");
            oath(x, 1, 1);
            oath(x, 4, 1);
            oath(x, 2, 1);
            is("POINTS by " + oaths[i], x.shown(0, 0, 6), points[i]);
            is("SHOWN by " + oaths[i], x.shown(0, 0, 1), oaths[i] == 0 ? NONE : 1);
            is("its SPAN all the same", x.shown(0, 0, 4), 50);
        }
    }

    static void p32TwentyOaths() {
        Hall x = hall("oaths 20;");
        for (int i = 0; i < 21; i++) oath(x, 4, 1);
        is("not the 21st", x.shown(0, 0, 6), 80);
    }

    static void p32OathsOfEachThing() {
        Hall x = hall("oaths 1;");
        oath(x, 4, 1);
        oath(x, 2, 1);
        oath(x, 4, 2);
        facts(x, 0, 0, 0, NONE, 0, 0, 50, 4, 0, 4, 0, 2);
        x.paper(2, 0, NONE, 2, NONE, 0, 50);
        is("another kind is beside them", x.shown(0, 0, 6), 7);
    }

    static void p32TwoOathsIfNotTold() {
        Hall x = hall("");
        for (int i = 0; i < 3; i++) oath(x, 4, 1);
        is("two", x.shown(0, 0, 6), 8);
    }

    static void p32PersonsWhoAreOne() {
        Hall x = hall("");
        x.paper(2, 0, 4, 1, 0, 10, 20);
        x.paper(2, 0, 3, 1, 0, 10, 20);
        x.paper(2, 0, 5, 1, 0, 10, 20);
        is("three have it", x.shown(0, 0, 9), 1);
        x.pass(1);
        x.same(4, 5);
        facts(x, 0, 1, 4, 1, 0, 10, 20, 6, 9, 9, 6, 0);
        x.same(2, 4);
        is("the least that a PAPER says", x.shown(0, 1, 0), 4);
        x.paper(0, 0, 2, NONE, NONE, 10, 20);
        is("without WEIGHT too", x.shown(0, 1, 0), 2);
        x.written(3, 0, 10, 0, 0);
        x.dead(0, 9);
        is("not one that can't be", x.shown(0, 1, 0), 4);
        is("as KNOWN ahead of it", x.shown(0, 0, 9), 1);
    }

    static void p32OneDayInCommon() {
        Hall x = hall("");
        x.paper(1, 0, NONE, NONE, NONE, 0, 100);
        x.paper(1, 0, NONE, NONE, NONE, 100, 9999);
        facts(x, 0, 0, NONE, NONE, NONE, 100, 100, 0, 0, 0, 0, 0);
        x.paper(0, 0, NONE, NONE, NONE, 200, 200);
        is("without WEIGHT it doesn't count", x.shown(0, 0, 9), 0);
        x.paper(1, 0, NONE, NONE, NONE, 101, 9999);
        facts(x, 0, 0, NONE, NONE, NONE, 0, 9999, 0, 0, 0, 0, 8);
    }

    static void p32SpanOfNone() {
        Hall x = hall("");
        facts(x, 0, 0, NONE, NONE, NONE, 0, 9999);
        x.paper(0, 0, 0, 1, 0, 10, 20);
        facts(x, 0, 0, NONE, NONE, NONE, 0, 9999);
        x.paper(1, 1, 0, 1, 0, 10, 20);
        x.paper(1, NONE, 0, 1, 0, 10, 20);
        facts(x, 0, 0, NONE, NONE, NONE, 0, 9999);
    }

    static void p32PointsAreTheLeast() {
        Hall x = hall("");
        x.paper(1, 0, 0, 1, 0, 10, 20);
        x.paper(2, 0, 0, 1, NONE, 10, 20);
        x.paper(2, 0, 0, NONE, NONE, 10, 20);
        facts(x, 0, 0, 0, 1, 0, 10, 20, 12, 9, 6, 6, 0);
        Hall y = hall("");
        y.paper(1, 0, 0, 1, NONE, 10, 20);
        facts(y, 0, 0, 0, 1, NONE, 10, 20, 6, 6, 0, 0, 0);
    }

    static void p32GreatestPoints() {
        Hall x = hall("");
        x.act("proof copy 99;");
        for (int i = 0; i < 120; i++) x.paper(1, 1, 5, 5, 1, 0, 9999);
        facts(x, 1, 0, 5, 5, 1, 0, 9999, 11880, 11880, 11880, 11880, 0);
    }

    static void p32KnownByThen() {
        Hall x = hall("");
        x.pass(10);
        x.paper(1, 0, 0, 1, 0, 10, 20);
        facts(x, 0, 9, NONE, NONE, NONE, 0, 9999, 0, 0, 0, 0, 0);
        facts(x, 0, 10, 0, 1, 0, 10, 20, 6, 6, 6, 6, 0);
        x.pass(10);
        x.act("proof copy 7;");
        is("by the ACT of a day ahead", x.shown(0, 19, 8), 6);
        is("of that day", x.shown(0, 20, 8), 7);
        is("of the last day", x.shown(0, 9999, 8), 7);
        is("of day 10 again", x.shown(0, 10, 8), 6);
    }

    static void p32CantBeShowsNothing() {
        Hall x = hall("");
        x.paper(1, 0, 0, 1, 0, 10, 20);
        x.paper(1, 0, 2, 3, 1, 500, 600);
        is("three QUARRELS and of the SPAN", x.shown(0, 0, 9), 15);
        x.dead(2, 499);
        facts(x, 0, 0, 0, 1, 0, 10, 20, 6, 6, 6, 6, 0);
    }
}
