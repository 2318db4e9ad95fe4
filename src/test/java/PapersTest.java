/** Promises 26 to 32: BURNT ones, PAPERS, MARKS, what CAN'T BE, what is SHOWN. */
public final class PapersTest {
    public static void main(String[] args) {
        burnt();
        paperRange();
        marks();
        full();
        written();
        pages();
        hands();
        lotsAndSpans();
        giversAndTakers();
        order();
        sums();
        quarrels();
        oaths();
        twoOaths();
        changes();
        ones();
        spans();
        least();
        knownDays();
        Due.end();
    }

    private static void burnt() {
        BurntHall x = new BurntHall();
        for (int i = 0; i < 30; i++) Due.is("burnt " + i, x.burnt(), i);
        Due.is("the 31st", x.burnt(), Due.FULL);
        Due.is("count", x.count(5), 30);
        Due.is("nothing shown: who gave", x.shown(29, 0, 0), Due.NONE);
        Due.is("nothing shown: first day", x.shown(29, 0, 3), 0);
        Due.is("nothing shown: last day", x.shown(29, 0, 4), 9999);
        Due.is("nothing shown: points", x.shown(29, 0, 8), 0);
        Due.is("nothing shown: quarrels", x.shown(29, 0, 9), 0);
        Due.is("no burnt", x.shown(30, 0, 0), -9);
        Due.is("no burnt", x.shown(-1, 0, 0), -9);
        Due.is("no day", x.shown(0, -1, 0), -9);
        Due.is("no day", x.shown(0, 10000, 0), -9);
        Due.is("no what", x.shown(0, 0, 10), -9);
        Due.is("no what", x.shown(0, 0, -1), -9);
    }

    /** Persons 0 .. 4 from day 0 on, LOTS 0 and 1, BURNT ones 0 and 1. */
    private static BurntHall hall() {
        BurntHall x = new BurntHall();
        for (int i = 0; i < 5; i++) x.person(0);
        x.lot(10, 0);
        x.lot(10, 0);
        x.burnt();
        x.burnt();
        return x;
    }

    private static void paperRange() {
        BurntHall x = hall();
        int[][] bad = {{-1, 0, 0, 0, 0, 0, 0}, {7, 0, 0, 0, 0, 0, 0}, {0, -2, 0, 0, 0, 0, 0}, {0, 2, 0, 0, 0, 0, 0},
            {0, 0, -2, 0, 0, 0, 0}, {0, 0, 5, 0, 0, 0, 0}, {0, 0, 0, -2, 0, 0, 0}, {0, 0, 0, 5, 0, 0, 0},
            {0, 0, 0, 0, -2, 0, 0}, {0, 0, 0, 0, 2, 0, 0}, {0, 0, 0, 0, 0, -1, 0}, {0, 0, 0, 0, 0, 0, 10000},
            {0, 0, 0, 0, 0, 10000, 10000}, {0, 0, 0, 0, 0, 5, 4}};
        for (int[] b : bad) Due.is("RANGE", x.paper(b[0], b[1], b[2], b[3], b[4], b[5], b[6]), Due.RANGE);
        Due.text(x, "?");
        Due.is("RANGE ahead of NONE", x.paper(7, 0, 0, 0, 0, 0, 0), Due.RANGE);
        Due.is("of none, of nobody", x.paper(0, -1, -1, -1, -1, 0, 0), 0);
        Due.is("the greatest of all", x.paper(6, 1, 4, 4, 1, 9999, 9999), 1);
        Due.is("count", x.count(6), 2);
    }

    private static void marks() {
        BurntHall x = hall();
        String[] bad = {"a", "a=;", "a=b;", "=1;", "1;", "a;a;", "a=12345;", "abcdefghijklm;", "a;;", "a b;", "a=1 2;",
            "A;", "a(;", "a+1;", "a;b;c;d;e;f;g;h;i;j;k;l;m;", "a=1;b=2;a=3;", "a=1", "a;!", "\u00e9;"};
        for (String text : bad) {
            Due.text(x, text);
            Due.is("marks " + text, x.paper(1, 0, 0, 1, 0, 0, 9), Due.NONE);
        }
        Due.is("none kept", x.count(6), 0);
        Due.is("no FAULT is told of MARKS", x.fault(0), 0);
        String[] good = {"", "  \n", "a;b;c;d;e;f;g;h;i;j;k;l;", "abcdefghijkl = 9999 ;", "when; or=0;", "a\n=\n0003;b;"};
        for (int i = 0; i < good.length; i++) {
            Due.text(x, good[i]);
            Due.is("marks " + good[i], x.paper(1, 0, 0, 1, 0, 0, 9), i);
        }
        ActTest.act(x, "proof copy 1; proof copy 2 when abcdefghijkl is 9999; proof copy 3 when a is 3 and b is 1;"
                + "proof copy 4 when l and a is 1;");
        int[] weights = {1, 1, 4, 2, 1, 3};
        for (int i = 0; i < weights.length; i++) Due.is("weight of " + good[i], x.weight(i, 0), weights[i]);
    }

    private static void full() {
        BurntHall x = hall();
        for (int i = 0; i < 120; i++) {
            if (i % 50 == 49) Due.text(x, "a;b;c;d;e;f;g;h;i;j;k;l=5;");
            Due.is("paper " + i, x.paper(i % 7, i % 2, i % 5, 0, i % 2, 0, 9999), i);
        }
        Due.is("the 121st", x.paper(0, 0, 0, 0, 0, 0, 0), Due.FULL);
        Due.text(x, "a");
        Due.is("NONE ahead of FULL", x.paper(0, 0, 0, 0, 0, 0, 0), Due.NONE);
        Due.is("RANGE ahead of FULL", x.paper(9, 0, 0, 0, 0, 0, 0), Due.RANGE);
        Due.is("count", x.count(6), 120);
        ActTest.act(x, "proof index 7 when l is 5;proof deed 1;proof index 1 when m;");
        Due.is("marks of one of many", x.weight(99, 0), 0);
        Due.is("marks of one of many", x.weight(49, 0), 1);
        Due.is("can be", x.cant(119, 0), 0);
    }

    private static void written() {
        BurntHall x = hall();
        x.paper(0, 0, 0, 1, 0, 0, 9);
        int[][] bad = {{1, 0, 0, 0, 0}, {-1, 0, 0, 0, 0}, {0, 5, 0, 0, 0}, {0, -1, 0, 0, 0}, {0, 0, -1, 0, 0},
            {0, 0, 10000, 0, 0}, {0, 0, 0, -1, 0}, {0, 0, 0, 10, 0}, {0, 0, 0, 0, -1}, {0, 0, 0, 0, 100}};
        for (int[] b : bad) Due.is("RANGE", x.written(b[0], b[1], b[2], b[3], b[4]), Due.RANGE);
        Due.is("told", x.written(0, 4, 9999, 9, 99), 1);
        Due.is("told already", x.written(0, 0, 0, 0, 0), Due.STATE);
        Due.is("RANGE ahead of STATE", x.written(0, 0, 0, 0, 100), Due.RANGE);
    }

    private static void pages() {
        BurntHall x = hall();
        Due.is("none", x.pages(0), Due.RANGE);
        Due.is("41", x.pages(41), Due.RANGE);
        Due.is("20 at first", x.pages(40), 20);
        Due.is("40", x.pages(1), 40);
        Due.is("1", x.pages(2), 1);
        for (int i = 0; i < 5; i++) {
            x.pass(1);
            x.paper(0, 0, 0, 1, 0, 0, 9);
        }
        x.written(0, 0, 5, 3, 7);
        x.written(1, 0, 5, 4, 7);
        x.written(2, 0, 5, 3, 7);
        x.written(3, 0, 5, 3, 8);
        x.written(4, 0, 5, 3, 7);
        Due.is("two others ahead of it", x.cant(4, 9), 5);
        Due.is("one other ahead of it", x.cant(2, 9), 0);
        Due.is("of other pages", x.cant(3, 9), 0);
        Due.is("only those KNOWN", x.cant(4, 2), 0);
        Due.is("those KNOWN that day", x.cant(4, 3), 5);
        x.dead(0, 3);
        Due.is("who can't be counts", x.cant(4, 9), 1);
        x.pages(3);
        Due.is("HAND first", x.cant(4, 9), 1);
        Due.is("not KNOWN dead", x.cant(4, 4), 0);
        x.pages(1);
        Due.is("one is enough", x.cant(2, 4), 5);
        Due.is("the first stands", x.cant(0, 4), 0);
        Due.is("no paper", x.cant(5, 0), Due.RANGE);
        Due.is("no paper", x.cant(-1, 0), Due.RANGE);
        Due.is("no day", x.cant(0, -1), Due.RANGE);
        Due.is("no day", x.cant(0, 10000), Due.RANGE);
    }

    private static void hands() {
        BurntHall x = hall();
        int late = x.person(100);
        for (int i = 0; i < 5; i++) x.paper(0, 0, 0, 1, 0, 0, 9);
        x.dead(2, 50);
        x.pass(1);
        x.same(2, 3);
        x.written(0, 2, 50, 0, 0);
        x.written(1, 2, 51, 0, 0);
        x.written(2, 3, 51, 0, 0);
        x.written(3, late, 99, 0, 0);
        x.written(4, late, 100, 0, 0);
        Due.is("on the day", x.cant(0, 1), 0);
        Due.is("behind it", x.cant(1, 1), 1);
        Due.is("who is ONE", x.cant(2, 1), 1);
        Due.is("not KNOWN as ONE", x.cant(2, 0), 0);
        Due.is("lives later", x.cant(3, 1), 1);
        Due.is("lives from then", x.cant(4, 1), 0);
    }

    private static void lotsAndSpans() {
        BurntHall x = hall();
        int late = x.lot(10, 50);
        x.split(late, 60, 2, 5, 5, 0, 0);
        int[][] spans = {{0, 49}, {0, 50}, {59, 70}, {60, 70}, {0, 9999}, {55, 55}};
        int[] want = {2, 0, 0, 2, 0, 0};
        for (int i = 0; i < spans.length; i++) {
            x.paper(0, 0, 0, 1, late, spans[i][0], spans[i][1]);
            Due.is("span " + spans[i][0] + " .. " + spans[i][1], x.cant(i, 0), want[i]);
        }
        x.paper(0, 0, 0, 1, late + 1, 0, 59);
        Due.is("ahead of the SPLIT", x.cant(6, 0), 2);
        x.paper(0, 0, 0, 1, late + 1, 0, 60);
        Due.is("on its day", x.cant(7, 0), 0);
        int never = x.lot(10, 5);
        x.split(never, 5, 2, 5, 5, 0, 0);
        x.paper(0, 0, 0, 1, never, 0, 9999);
        Due.is("there on no day at all", x.cant(8, 0), 2);
    }

    private static void giversAndTakers() {
        BurntHall x = hall();
        int late = x.person(100);
        x.dead(0, 50);
        x.paper(0, 0, 0, -1, -1, 50, 60);
        x.paper(0, 0, 0, -1, -1, 51, 60);
        x.paper(0, 0, -1, 0, -1, 20, 50);
        x.paper(0, 0, -1, 0, -1, 51, 60);
        x.paper(0, 0, late, -1, -1, 0, 99);
        x.paper(0, 0, late, -1, -1, 0, 100);
        x.paper(0, 0, -1, late, -1, 0, 99);
        x.paper(0, 0, -1, late, -1, 100, 100);
        x.paper(0, 0, -1, -1, -1, 0, 0);
        int[] want = {0, 3, 0, 4, 3, 0, 4, 0, 0};
        for (int k = 0; k < want.length; k++) Due.is("paper " + k, x.cant(k, 0), want[k]);
    }

    private static void order() {
        BurntHall x = hall();
        int late = x.lot(10, 500);
        x.pages(1);
        x.dead(0, 5);
        x.dead(1, 5);
        x.paper(0, 0, 0, 1, late, 10, 20);
        x.paper(0, 0, 0, 1, late, 10, 20);
        x.paper(0, 0, 0, 1, 0, 10, 20);
        x.paper(0, 0, 2, 1, 0, 10, 20);
        x.paper(0, 0, 2, 3, 0, 10, 20);
        x.written(0, 0, 10, 1, 1);
        x.written(1, 3, 10, 1, 1);
        x.written(2, 3, 10, 1, 1);
        x.written(3, 3, 10, 1, 1);
        x.written(4, 3, 10, 1, 1);
        for (int k = 0; k < 5; k++) Due.is("the first of these " + k, x.cant(k, 0), k + 1);
    }

    private static void facts(BurntHall x, int b, int known, int... want) {
        for (int what = 0; what < want.length; what++) Due.is("shown " + b + " " + what, x.shown(b, known, what), want[what]);
    }

    private static void sums() {
        BurntHall x = hall();
        ActTest.act(x, "proof copy 6; proof index 4; proof deed 9;");
        x.paper(1, 0, 0, 1, 0, 10, 90);
        facts(x, 0, 0, 0, 1, 0, 10, 90, 6, 6, 6, 6, 0);
        x.paper(2, 0, 0, 2, -1, 20, 100);
        facts(x, 0, 0, 0, 1, 0, 20, 90, 10, 6, 6, 6, 0);
        x.paper(2, 0, 0, 2, 1, 20, 100);
        facts(x, 0, 0, 0, 2, 0, 20, 90, 14, 8, 6, 6, 0);
        x.paper(6, 0, 3, 3, 1, 80, 85);
        facts(x, 0, 0, 0, 2, 0, 20, 90, 14, 8, 6, 6, 0);
        x.paper(0, 1, 4, 4, 1, 0, 0);
        facts(x, 0, 0, 0, 2, 0, 20, 90, 14, 8, 6, 6, 0);
        facts(x, 1, 0, 4, 4, 1, 0, 0, 9, 9, 9, 9, 0);
        x.paper(0, -1, 3, 3, 1, 0, 0);
        facts(x, 1, 0, 4, 4, 1, 0, 0, 9, 9, 9, 9, 0);
    }

    private static void quarrels() {
        BurntHall x = hall();
        ActTest.act(x, "proof copy 6; proof index 3; least 6;");
        x.paper(2, 0, 0, 1, 0, 10, 90);
        x.paper(2, 0, 1, 2, 1, 10, 90);
        facts(x, 0, 0, -1, -1, -1, 10, 90, 0, 0, 0, 0, 0);
        x.paper(2, 0, 0, 1, 0, 10, 90);
        facts(x, 0, 0, 0, 1, 0, 10, 90, 6, 6, 6, 6, 0);
        x.paper(1, 0, 2, 3, 0, 10, 90);
        facts(x, 0, 0, -1, -1, 0, 10, 90, 0, 0, 12, 0, 3);
        x.paper(2, 0, -1, -1, 1, 10, 90);
        facts(x, 0, 0, -1, -1, 0, 10, 90, 0, 0, 12, 0, 3);
        x.paper(1, 0, 0, -1, 1, 91, 91);
        facts(x, 0, 0, 0, -1, -1, 0, 9999, 12, 0, 0, 0, 2 + 4 + 8);
    }

    private static void oaths() {
        BurntHall x = hall();
        ActTest.act(x, "proof oath 1 when a is 1; proof oath 2 when a is 2; proof oath 3 when a is 3; proof copy 5; oaths 2;");
        for (int n : new int[] {1, 3, 2, 3}) {
            Due.text(x, "a=" + n + ";");
            x.paper(3, 0, 0, 1, -1, 0, 50);
        }
        facts(x, 0, 0, 0, 1, -1, 0, 50, 6, 6, 0, 0, 0);
        Due.text(x, "a=2;");
        x.paper(3, 0, 2, 1, 0, 0, 50);
        facts(x, 0, 0, 0, 1, 0, 0, 50, 6, 6, 2, 2, 0);
        x.paper(1, 0, 0, 1, 0, 0, 50);
        facts(x, 0, 0, 0, 1, 0, 0, 50, 11, 11, 7, 7, 0);
        x.pass(1);
        ActTest.act(x, "proof oath 1 when a is 1; proof oath 2 when a is 2; proof oath 3 when a is 3; oaths 1;");
        facts(x, 0, 1, 0, 1, 0, 0, 50, 3, 3, 2, 2, 0);
        x.pass(1);
        ActTest.act(x, "proof oath 7 when a is 1; proof oath 2 when a is 2; proof oath 3 when a is 3; oaths 3;");
        facts(x, 0, 2, 0, 1, 0, 0, 50, 13, 13, 2, 2, 0);
        x.pass(1);
        ActTest.act(x, "proof oath 4; oaths 0; proof copy 1;");
        facts(x, 0, 3, 0, 1, 0, 0, 50, 1, 1, 1, 1, 0);
        x.pass(1);
        ActTest.act(x, "proof oath 4; oaths 20;");
        facts(x, 0, 4, 0, 1, 0, 0, 50, 16, 20, 4, 4, 0);
    }

    private static void ones() {
        BurntHall x = hall();
        ActTest.act(x, "proof copy 6; proof index 4;");
        x.paper(1, 0, 3, 1, 0, 10, 90);
        x.paper(2, 0, 2, 1, 0, 10, 90);
        x.paper(0, 0, 1, 1, 0, 10, 90);
        facts(x, 0, 0, 3, 1, 0, 10, 90, 6, 10, 10, 6, 0);
        x.pass(1);
        x.same(3, 0);
        facts(x, 0, 1, 3, 1, 0, 10, 90, 6, 10, 10, 6, 0);
        x.same(2, 4);
        x.same(4, 3);
        facts(x, 0, 1, 2, 1, 0, 10, 90, 10, 10, 10, 10, 0);
        facts(x, 0, 0, 3, 1, 0, 10, 90, 6, 10, 10, 6, 0);
        x.pass(1);
        x.same(1, 0);
        facts(x, 0, 2, 1, 1, 0, 10, 90, 10, 10, 10, 10, 0);
    }

    private static void spans() {
        BurntHall x = hall();
        ActTest.act(x, "proof copy 6;");
        x.paper(1, 0, 0, 1, 0, 10, 90);
        x.paper(0, 0, 0, 1, 0, 200, 300);
        facts(x, 0, 0, 0, 1, 0, 10, 90);
        x.paper(1, 0, -1, -1, -1, 90, 300);
        facts(x, 0, 0, 0, 1, 0, 90, 90, 6, 6, 6, 6, 0);
        x.paper(1, 0, -1, -1, -1, 91, 300);
        facts(x, 0, 0, 0, 1, 0, 0, 9999, 6, 6, 6, 6, 8);
        x.pages(1);
        x.written(0, 0, 0, 0, 0);
        x.written(3, 0, 0, 0, 0);
        facts(x, 0, 0, 0, 1, 0, 90, 90, 6, 6, 6, 6, 0);
    }

    /** Each call that changes what is SHOWN is seen by the next answer, with nothing told between. */
    private static void changes() {
        BurntHall x = hall();
        ActTest.act(x, "proof copy 6;");
        x.paper(1, 0, 0, 1, 0, 10, 90);
        x.paper(1, 0, 0, 1, 0, 10, 90);
        x.written(0, 2, 20, 0, 0);
        x.written(1, 3, 20, 0, 0);
        facts(x, 0, 0, 0, 1, 0, 10, 90, 12);
        Due.is("a BURNT one comes", x.burnt(), 2);
        facts(x, 2, 0, -1, -1, -1, 0, 9999, 0, 0, 0, 0, 0);
        x.pages(1);
        facts(x, 0, 0, 0, 1, 0, 10, 90, 6);
        x.pages(2);
        facts(x, 0, 0, 0, 1, 0, 10, 90, 12);
        x.dead(2, 19);
        facts(x, 0, 0, 0, 1, 0, 10, 90, 6);
        x.same(2, 3);
        facts(x, 0, 0, -1, -1, -1, 0, 9999, 0);
        x.paper(1, 0, 0, 1, 0, 30, 90);
        facts(x, 0, 0, 0, 1, 0, 30, 90, 6);
        x.join(2, 0, 1, 0, 0, 30, 5);
        facts(x, 0, 0, -1, -1, -1, 0, 9999, 0);
        x.paper(1, 0, 0, 1, 2, 30, 90);
        facts(x, 0, 0, 0, 1, 2, 30, 90, 6);
        x.written(3, 3, 20, 1, 0);
        facts(x, 0, 0, -1, -1, -1, 0, 9999, 0);
        x.paper(1, 1, 0, 1, 2, 30, 90);
        facts(x, 1, 0, 0, 1, 2, 30, 90, 6);
        ActTest.act(x, "proof copy 5;");
        facts(x, 1, 0, 0, 1, 2, 30, 90, 5);
        x.split(2, 30, 2, 5, 5, 0, 0);
        facts(x, 1, 0, -1, -1, -1, 0, 9999, 0);
    }

    private static void twoOaths() {
        for (int[] pair : new int[][] {{1, 3}, {3, 1}}) {
            BurntHall x = hall();
            ActTest.act(x, "proof oath 1 when a is 1; proof oath 3 when a is 3; oaths 2;");
            for (int n : pair) {
                Due.text(x, "a=" + n + ";");
                x.paper(3, 0, 0, 1, 0, 0, 50);
            }
            facts(x, 0, 0, 0, 1, 0, 0, 50, 4, 4, 4, 4, 0);
        }
    }

    private static void least() {
        BurntHall x = hall();
        x.paper(1, 0, 0, 1, 0, 10, 90);
        facts(x, 0, 0, -1, -1, -1, 0, 9999, 0, 0, 0, 0, 0);
        ActTest.act(x, "least 0;");
        facts(x, 0, 0, -1, -1, -1, 0, 9999, 0, 0, 0, 0, 0);
        ActTest.act(x, "proof copy 6; least 7;");
        facts(x, 0, 0, -1, -1, -1, 10, 90, 0, 0, 0, 0, 0);
        ActTest.act(x, "proof copy 6; least 6;");
        facts(x, 0, 0, 0, 1, 0, 10, 90, 6, 6, 6, 6, 0);
    }

    private static void knownDays() {
        BurntHall x = hall();
        ActTest.act(x, "proof copy 6;");
        x.pass(10);
        x.paper(1, 0, 0, 1, 0, 10, 90);
        x.pass(10);
        ActTest.act(x, "proof copy 7;");
        x.dead(1, 5);
        facts(x, 0, 9, -1, -1, -1, 0, 9999, 0, 0, 0, 0, 0);
        facts(x, 0, 10, 0, 1, 0, 10, 90, 6, 6, 6, 6, 0);
        facts(x, 0, 19, 0, 1, 0, 10, 90, 6, 6, 6, 6, 0);
        facts(x, 0, 20, -1, -1, -1, 0, 9999, 0, 0, 0, 0, 0);
        x.paper(1, 0, 0, -1, 0, 10, 90);
        facts(x, 0, 20, 0, -1, 0, 10, 90, 7, 0, 7, 0, 0);
        facts(x, 0, 9999, 0, -1, 0, 10, 90, 7, 0, 7, 0, 0);
        x.split(0, 10, 2, 5, 5, 0, 0);
        facts(x, 0, 9999, -1, -1, -1, 0, 9999, 0, 0, 0, 0, 0);
    }
}
