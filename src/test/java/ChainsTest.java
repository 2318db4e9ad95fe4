/** Promises 33 to 37: ROOTS, CHAINS, rows judged, years HELD. */
public final class ChainsTest {
    public static void main(String[] args) {
        roots();
        chainRange();
        bare();
        gaps();
        order();
        heirs();
        highNumbers();
        lines();
        weakest();
        fewest();
        strongWithLinks();
        justAbove999();
        eightLinks();
        remembered();
        judge();
        judgeRoots();
        held();
        Due.end();
    }

    /** Eight persons, LOT 0 held by person 0 from day 10 on, copies weigh 6 and indexes 3. */
    private static BurntHall hall() {
        BurntHall x = new BurntHall();
        for (int i = 0; i < 8; i++) x.person(0);
        x.lot(10, 0);
        x.root(0, 0, 10);
        ActTest.act(x, "proof copy 6; proof index 3; proof tax 2; proof deed 99;");
        return x;
    }

    private static int deed(BurntHall x, int kind, int gave, int got, int l, int from, int to) {
        int b = x.burnt();
        x.paper(kind, b, gave, got, l, from, to);
        return b;
    }

    private static void chain(BurntHall x, int l, int p, int known, int gaps, int... rest) {
        Due.is("chain " + l + " to " + p, x.chain(l, p, known), gaps);
        if (gaps == Due.NONE) return;
        Due.is("gaps", x.linked(0), gaps);
        Due.is("weakest", x.linked(1), rest[0]);
        Due.is("root", x.linked(3), rest[1]);
        Due.is("links", x.linked(2), rest.length - 2);
        for (int i = 2; i < rest.length; i++) Due.is("link " + (i - 2), x.linked(8 + i), rest[i]);
        Due.is("no more", x.linked(8 + rest.length), Due.NONE);
    }

    private static void roots() {
        BurntHall x = new BurntHall();
        x.person(0);
        x.lot(10, 0);
        x.lot(10, 0);
        x.split(1, 5, 2, 5, 5, 0, 0);
        Due.is("no lot", x.root(4, 0, 0), Due.RANGE);
        Due.is("no lot", x.root(-1, 0, 0), Due.RANGE);
        Due.is("no person", x.root(0, 1, 0), Due.RANGE);
        Due.is("no day", x.root(0, 0, -1), Due.RANGE);
        Due.is("no day", x.root(0, 0, 10000), Due.RANGE);
        Due.is("of others", x.root(2, 0, 0), Due.STATE);
        Due.is("told", x.root(0, 0, 9999), 1);
        Due.is("told once", x.root(0, 0, 0), Due.STATE);
        Due.is("RANGE ahead of STATE", x.root(0, 0, 10000), Due.RANGE);
        Due.is("one that was SPLIT came of none", x.root(1, 0, 0), 1);
        x.split(0, 5, 2, 5, 5, 0, 0);
        x.join(2, 2, 3, 0, 0, 6, 5);
        Due.is("of a JOINING", x.root(6, 0, 0), Due.STATE);
    }

    private static void chainRange() {
        BurntHall x = hall();
        Due.is("no lot", x.chain(1, 0, 0), Due.RANGE);
        Due.is("no lot", x.chain(-1, 0, 0), Due.RANGE);
        Due.is("no person", x.chain(0, 8, 0), Due.RANGE);
        Due.is("no day", x.chain(0, 0, -1), Due.RANGE);
        Due.is("no day", x.chain(0, 0, 10000), Due.RANGE);
        Due.is("nothing remembered", x.linked(0), Due.NONE);
    }

    private static void bare() {
        BurntHall x = hall();
        chain(x, 0, 0, 0, 0, 999, 0);
        chain(x, 0, 1, 0, Due.NONE);
        x.same(1, 2);
        x.same(0, 2);
        chain(x, 0, 1, 0, 0, 999, 0);
        x.lot(10, 0);
        chain(x, 1, 0, 0, Due.NONE);
    }

    private static void gaps() {
        BurntHall x = hall();
        int a = deed(x, 1, 0, 1, 0, 20, 30);
        int b = deed(x, 1, 1, 2, 0, 40, 50);
        int c = deed(x, 1, 3, 4, 0, 60, 70);
        int d = deed(x, 2, 4, 5, 0, 80, 90);
        chain(x, 0, 1, 0, 0, 6, 0, a);
        chain(x, 0, 2, 0, 0, 6, 0, a, b);
        chain(x, 0, 4, 0, 1, 6, 0, c);
        chain(x, 0, 5, 0, 1, 3, 0, d);
        chain(x, 0, 3, 0, Due.NONE);
        x.same(2, 3);
        chain(x, 0, 4, 0, 0, 6, 0, a, b, c);
        chain(x, 0, 5, 0, 0, 3, 0, a, b, c, d);
        int e = deed(x, 1, -1, 6, 0, 100, 110);
        chain(x, 0, 6, 0, 1, 0, 0, e);
        int f = x.burnt();
        x.paper(1, f, 0, 7, -1, 100, 110);
        chain(x, 0, 7, 0, Due.NONE);
        int g = x.burnt();
        x.paper(1, g, 0, -1, 0, 100, 110);
        chain(x, 0, 7, 0, Due.NONE);
    }

    private static void order() {
        BurntHall x = hall();
        int a = deed(x, 1, 0, 1, 0, 20, 30);
        int b = deed(x, 1, 1, 2, 0, 5, 20);
        int c = deed(x, 1, 2, 3, 0, 0, 19);
        int d = deed(x, 1, 0, 4, 0, 0, 9);
        int e = deed(x, 1, 0, 5, 0, 0, 10);
        chain(x, 0, 2, 0, 0, 6, 0, a, b);
        chain(x, 0, 3, 0, 1, 6, 0, c);
        chain(x, 0, 4, 0, Due.NONE);
        chain(x, 0, 5, 0, 0, 6, 0, e);
        int f = deed(x, 1, 5, 6, 0, 0, 9);
        chain(x, 0, 6, 0, Due.NONE);
        int g = deed(x, 1, 5, 7, 0, 0, 10);
        chain(x, 0, 7, 0, 0, 6, 0, e, g);
        Due.is("no chain ends with these", d + f, 3 + 5);
        BurntHall y = hall();
        int h = deed(y, 1, 1, 2, 0, 0, 40);
        int i = deed(y, 1, 0, 1, 0, 50, 60);
        int j = deed(y, 1, 1, 2, 0, 55, 80);
        int k = deed(y, 1, 5, 6, 0, 0, 10);
        chain(y, 0, 2, 0, 0, 6, 0, i, j);
        chain(y, 0, 6, 0, 1, 6, 0, k);
        Due.is("one that comes too early", h, 0);
    }

    private static void heirs() {
        BurntHall x = hall();
        int a = deed(x, 1, 1, 2, 0, 50, 60);
        x.child(0, 1);
        x.dead(0, 60);
        chain(x, 0, 2, 0, 1, 6, 0, a);
        x.pass(1);
        ActTest.act(x, "proof copy 6; heirs;");
        chain(x, 0, 2, 1, 0, 6, 0, a);
        chain(x, 0, 2, 0, 1, 6, 0, a);
        chain(x, 0, 1, 1, 0, 999, 0);
        chain(x, 0, 1, 0, Due.NONE);
        int b = deed(x, 1, 1, 3, 0, 50, 59);
        chain(x, 0, 3, 1, 1, 6, 0, b);
        x.child(2, 4);
        chain(x, 0, 4, 1, Due.NONE);
        x.dead(2, 9999);
        chain(x, 0, 4, 1, 0, 6, 0, a);
        x.pass(1);
        x.same(5, 4);
        x.same(6, 2);
        x.child(6, 7);
        chain(x, 0, 5, 1, Due.NONE);
        chain(x, 0, 5, 2, 0, 6, 0, a);
        chain(x, 0, 7, 2, 0, 6, 0, a);
        int c = deed(x, 1, 5, 3, 0, 60, 70);
        chain(x, 0, 3, 2, 1, 6, 0, b);
        x.dead(6, 65);
        chain(x, 0, 3, 2, 0, 6, 0, a, c);
    }

    /** Numbers near the most: persons from 64 on, the last LOT. */
    private static void highNumbers() {
        BurntHall x = new BurntHall();
        for (int i = 0; i < 80; i++) x.person(0);
        for (int i = 0; i < 60; i++) x.lot(10, 0);
        ActTest.act(x, "proof copy 6; heirs;");
        x.root(59, 63, 0);
        x.dead(63, 5);
        x.child(63, 1);
        int a = deed(x, 1, 79, 78, 59, 10, 20);
        int b = deed(x, 1, 64, 77, 59, 10, 20);
        x.pass(5);
        x.child(63, 79);
        x.child(63, 2);
        x.child(63, 64);
        Due.is("who gave", x.shown(a, 5, 0), 79);
        Due.is("who got", x.shown(a, 5, 1), 78);
        Due.is("which LOT", x.shown(a, 5, 2), 59);
        chain(x, 59, 78, 5, 0, 6, 59, a);
        chain(x, 59, 77, 5, 0, 6, 59, b);
        chain(x, 59, 79, 5, 0, 999, 59);
        chain(x, 59, 15, 5, Due.NONE);
        chain(x, 59, 78, 4, 1, 6, 59, a);
        chain(x, 59, 79, 4, Due.NONE);
        chain(x, 59, 64, 5, 0, 999, 59);
        chain(x, 59, 64, 4, Due.NONE);
        chain(x, 59, 0, 5, Due.NONE);
        chain(x, 59, 2, 5, 0, 999, 59);
        chain(x, 59, 2, 4, Due.NONE);
        chain(x, 59, 1, 4, 0, 999, 59);
    }

    private static void lines() {
        BurntHall x = hall();
        x.lot(10, 0);
        x.root(1, 1, 0);
        x.lot(10, 0);
        x.root(2, 1, 0);
        x.join(2, 0, 2, 0, 0, 100, 20);
        x.split(3, 200, 2, 10, 10, 0, 0);
        int a = deed(x, 1, 0, 3, 0, 20, 30);
        int b = deed(x, 1, 3, 4, 4, 200, 300);
        int c = deed(x, 1, 3, 5, 5, 200, 300);
        chain(x, 4, 4, 0, 0, 6, 0, a, b);
        chain(x, 5, 5, 0, 0, 6, 0, a, c);
        chain(x, 5, 4, 0, Due.NONE);
        chain(x, 3, 4, 0, Due.NONE);
        chain(x, 3, 3, 0, 0, 6, 0, a);
        chain(x, 0, 3, 0, 0, 6, 0, a);
        chain(x, 1, 3, 0, Due.NONE);
        chain(x, 4, 1, 0, 0, 999, 2);
        chain(x, 4, 0, 0, 0, 999, 0);
        int d = deed(x, 1, 1, 6, 2, 50, 60);
        chain(x, 4, 6, 0, 0, 6, 2, d);
        x.same(0, 1);
        chain(x, 4, 6, 0, 0, 6, 0, d);
        chain(x, 4, 0, 0, 0, 999, 0);
    }

    private static void weakest() {
        BurntHall x = hall();
        int a = deed(x, 2, 0, 2, 0, 20, 30);
        int b = deed(x, 1, 0, 1, 0, 20, 30);
        int c = deed(x, 1, 1, 2, 0, 40, 50);
        chain(x, 0, 2, 0, 0, 6, 0, b, c);
        x.paper(2, a, 0, 2, 0, 20, 30);
        chain(x, 0, 2, 0, 0, 6, 0, a);
        int d = deed(x, 1, 5, 6, 0, 40, 50);
        int e = deed(x, 0, 7, 6, 0, 40, 50);
        chain(x, 0, 6, 0, 1, 99, 0, e);
        Due.is("another", d, 3);
    }

    private static void fewest() {
        BurntHall x = hall();
        int a = deed(x, 1, 0, 1, 0, 20, 90);
        int b = deed(x, 1, 0, 1, 0, 20, 30);
        int c = deed(x, 1, 1, 2, 0, 40, 80);
        int d = deed(x, 1, 1, 2, 0, 40, 80);
        int e = deed(x, 1, 1, 1, 0, 40, 80);
        chain(x, 0, 1, 0, 0, 6, 0, a);
        chain(x, 0, 2, 0, 0, 6, 0, a, c);
        int f = deed(x, 1, 2, 3, 0, 0, 39);
        chain(x, 0, 3, 0, 1, 6, 0, f);
        int g = deed(x, 1, 2, 4, 0, 0, 40);
        chain(x, 0, 4, 0, 0, 6, 0, a, c, g);
        Due.is("others", b + d + e, 1 + 3 + 4);
    }

    /** POINTS above 999 beat a CHAIN without LINKS. */
    private static void strongWithLinks() {
        BurntHall x = hall();
        int a = deed(x, 0, 0, 1, 0, 20, 30);
        int b = deed(x, 0, 1, 0, 0, 20, 30);
        for (int i = 0; i < 9; i++) {
            x.paper(0, a, 0, 1, 0, 20, 30);
            x.paper(0, b, 1, 0, 0, 20, 30);
        }
        chain(x, 0, 0, 0, 0, 999, 0);
        x.paper(0, a, 0, 1, 0, 20, 30);
        chain(x, 0, 0, 0, 0, 999, 0);
        x.paper(0, b, 1, 0, 0, 20, 30);
        chain(x, 0, 0, 0, 0, 1089, 0, a, b);
        x.paper(0, b, 1, 0, 0, 20, 30);
        chain(x, 0, 0, 0, 0, 1089, 0, a, b);
    }

    private static void justAbove999() {
        for (int more : new int[] {9, 10}) {
            BurntHall x = hall();
            ActTest.act(x, "proof deed 99; proof copy " + more + ";");
            int a = deed(x, 1, 0, 1, 0, 20, 30);
            int b = deed(x, 1, 1, 0, 0, 20, 30);
            for (int i = 0; i < 10; i++) {
                x.paper(0, a, 0, 1, 0, 20, 30);
                x.paper(0, b, 1, 0, 0, 20, 30);
            }
            if (more == 9) chain(x, 0, 0, 0, 0, 999, 0); else chain(x, 0, 0, 0, 0, 1000, 0, a, b);
        }
    }

    private static void eightLinks() {
        BurntHall x = hall();
        x.person(0);
        x.person(0);
        for (int i = 0; i < 9; i++) deed(x, 1, i, i + 1, 0, 20 + i, 20 + i);
        chain(x, 0, 8, 0, 0, 6, 0, 0, 1, 2, 3, 4, 5, 6, 7);
        Due.is("the eighth", x.linked(17), 7);
        Due.is("no ninth", x.linked(18), Due.NONE);
        chain(x, 0, 9, 0, 1, 6, 0, 8);
        Due.text(x, "012345678");
        Due.is("nine are none", x.judge(0, 9, 0), Due.NONE);
        Due.text(x, "01234567");
        Due.is("eight", x.judge(0, 8, 0), 0);
        Due.text(x, "12345678");
        Due.is("eight others", x.judge(0, 9, 0), 1);
    }

    private static void remembered() {
        BurntHall x = hall();
        int a = deed(x, 1, 0, 1, 0, 20, 30);
        chain(x, 0, 1, 0, 0, 6, 0, a);
        Due.is("NONE", x.chain(0, 5, 0), Due.NONE);
        Due.is("stays", x.linked(10), a);
        Due.is("RANGE", x.chain(0, 99, 0), Due.RANGE);
        Due.is("stays", x.linked(1), 6);
        x.claim(0, 0);
        x.worth(0);
        Due.text(x, "");
        x.judge(0, 0, 0);
        Due.is("of chain() alone", x.linked(2), 1);
        Due.is("linked 4", x.linked(4), Due.NONE);
        Due.is("linked 9", x.linked(9), Due.NONE);
        Due.is("linked -1", x.linked(-1), Due.NONE);
        Due.is("linked most", x.linked(Integer.MAX_VALUE), Due.NONE);
    }

    private static int judged(BurntHall x, String row, int l, int p, int known) {
        Due.text(x, row);
        return x.judge(l, p, known);
    }

    private static void judge() {
        BurntHall x = hall();
        deed(x, 1, 0, 1, 0, 20, 30);
        deed(x, 1, 1, 2, 0, 40, 50);
        deed(x, 1, 5, 3, 0, 45, 60);
        x.lot(10, 0);
        deed(x, 1, 0, 4, 1, 20, 30);
        Due.is("two", judged(x, "01", 0, 2, 0), 0);
        Due.is("one with a gap", judged(x, "1", 0, 2, 0), 1);
        Due.is("two gaps", judged(x, "12", 0, 3, 0), 2);
        Due.is("one gap of three", judged(x, "012", 0, 3, 0), 1);
        Due.is("back in time", judged(x, "10", 0, 1, 0), Due.NONE);
        Due.is("ends elsewhere", judged(x, "01", 0, 3, 0), Due.NONE);
        Due.is("twice", judged(x, "11", 0, 2, 0), Due.NONE);
        Due.is("not of the LINE", judged(x, "3", 0, 4, 0), Due.NONE);
        Due.is("no root", judged(x, "3", 1, 4, 0), Due.NONE);
        Due.is("no BURNT one", judged(x, "4", 0, 2, 0), Due.NONE);
        Due.is("no BURNT one is not the first", judged(x, "4", 0, 1, 0), Due.NONE);
        Due.is("one not of the LINE is not the first", judged(x, "3", 0, 1, 0), Due.NONE);
        Due.is("a byte of 255 is not the first", judged(x, "\u00ff", 0, 1, 0), Due.NONE);
        Due.is("a blank is none", judged(x, "0 1", 0, 2, 0), Due.NONE);
        Due.is("a byte below 48", judged(x, "/", 0, 2, 0), Due.NONE);
        Due.is("a byte of 255", judged(x, "\u00ff", 0, 2, 0), Due.NONE);
        Due.is("without links", judged(x, "", 0, 0, 0), 0);
        Due.is("without links, another", judged(x, "", 0, 1, 0), Due.NONE);
        Due.is("no lot", judged(x, "0", 2, 1, 0), Due.RANGE);
        Due.is("no person", judged(x, "0", 0, 8, 0), Due.RANGE);
        Due.is("no day", judged(x, "0", 0, 1, 10000), Due.RANGE);
        x.pass(1);
        x.same(2, 5);
        Due.is("as KNOWN", judged(x, "012", 0, 3, 1), 0);
        Due.is("as not KNOWN", judged(x, "012", 0, 3, 0), 1);
        for (int i = 4; i < 30; i++) deed(x, 1, 3, 6, 0, 60, 70);
        Due.is("the last BURNT one", judged(x, "012" + (char) (48 + 29), 0, 6, 1), 0);
    }

    private static void judgeRoots() {
        BurntHall x = hall();
        x.lot(10, 0);
        x.root(1, 1, 50);
        x.join(2, 0, 1, 0, 0, 100, 20);
        deed(x, 1, 1, 2, 1, 20, 49);
        deed(x, 1, 1, 2, 1, 20, 50);
        Due.is("from the other ROOT", judged(x, "0", 2, 2, 0), 1);
        Due.is("the fewest of both", judged(x, "1", 2, 2, 0), 0);
        Due.is("one ROOT alone", judged(x, "1", 1, 2, 0), 0);
        Due.is("too late for it", judged(x, "0", 1, 2, 0), Due.NONE);
    }

    private static void held() {
        BurntHall x = hall();
        x.split(0, 3000, 2, 5, 5, 0, 0);
        x.lot(10, 0);
        x.paper(4, -1, -1, 1, 0, 365, 729);
        Due.is("a year", x.held(0, 1, 1, 0), 1);
        Due.is("not the next", x.held(0, 1, 2, 0), 0);
        Due.is("not the former", x.held(0, 1, 0, 0), 0);
        x.paper(4, -1, -1, 1, 0, 730, 1460);
        Due.is("a day is enough", x.held(0, 1, 4, 0), 4);
        Due.is("no more", x.held(0, 1, 5, 0), 0);
        Due.is("of the LINE", x.held(1, 1, 4, 0), 4);
        Due.is("of another", x.held(3, 1, 4, 0), 0);
        Due.is("another person", x.held(0, 2, 4, 0), 0);
        x.paper(4, -1, 1, -1, 0, 1825, 1900);
        x.paper(1, -1, -1, 1, 0, 1825, 1900);
        x.paper(4, -1, -1, 1, -1, 1825, 1900);
        Due.is("who gave, a copy, no lot", x.held(0, 1, 5, 0), 0);
        x.pass(1);
        x.same(1, 2);
        x.paper(4, -1, -1, 2, 0, 0, 0);
        Due.is("year 0", x.held(0, 1, 4, 1), 5);
        Due.is("who is ONE", x.held(0, 2, 3, 1), 4);
        Due.is("as KNOWN ahead", x.held(0, 1, 4, 0), 4);
        x.pass(1);
        x.dead(2, 700);
        Due.is("one that can't be", x.held(0, 1, 4, 2), 0);
        Due.is("the other can", x.held(0, 1, 1, 2), 2);
        x.pass(1);
        ActTest.act(x, "proof tax 2 when a;");
        Due.is("without a WEIGHT", x.held(0, 1, 1, 3), 0);
        x.paper(4, -1, -1, 5, 1, 9855, 9999);
        Due.is("on a LOT that came later", x.held(0, 5, 27, 3), 0);
        Due.text(x, "a;");
        x.paper(4, -1, -1, 5, 1, 9855, 9999);
        Due.is("the last year", x.held(1, 5, 27, 3), 1);
        Due.is("of one's own LINE alone", x.held(0, 5, 27, 3), 0);
        Due.is("no lot", x.held(4, 0, 0, 0), Due.RANGE);
        Due.is("no person", x.held(0, 8, 0, 0), Due.RANGE);
        Due.is("no year", x.held(0, 0, 28, 0), Due.RANGE);
        Due.is("no year", x.held(0, 0, -1, 0), Due.RANGE);
        Due.is("no day", x.held(0, 0, 0, -1), Due.RANGE);
    }
}
