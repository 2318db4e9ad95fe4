/** Promises 49 to 53: PLACES to look, which set SETTLES most, and the counts. */
public final class PlacesTest {
    public static void main(String[] args) {
        places();
        settles();
        bare();
        notShown();
        links();
        next();
        looked();
        byTime();
        counts();
        Due.end();
    }

    private static void places() {
        BurntHall x = new BurntHall();
        Due.is("no BURNT one", x.place(1, 0, 1), Due.RANGE);
        for (int i = 0; i < 30; i++) x.burnt();
        int[][] bad = {{0, 0, 1}, {100, 0, 1}, {1, -1, 1}, {1, 30, 1}, {1, 0, 0}, {1, 0, 100}};
        for (int[] b : bad) Due.is("RANGE", x.place(b[0], b[1], b[2]), Due.RANGE);
        for (int i = 0; i < 12; i++) Due.is("place " + i, x.place(i % 2 == 0 ? 1 : 99, 29, i % 2 == 0 ? 99 : 1), i);
        Due.is("the 13th", x.place(1, 0, 1), Due.FULL);
        Due.is("RANGE ahead of FULL", x.place(0, 0, 1), Due.RANGE);
        Due.is("count", x.count(10), 12);
        Due.is("the whole set", x.settles(4095), 0);
        Due.is("beyond", x.settles(4096), Due.RANGE);
        Due.is("below", x.settles(-1), Due.RANGE);
        Due.is("next -1", x.next(-1), Due.RANGE);
        Due.is("next 1201", x.next(1201), Due.RANGE);
        Due.is("next 1200", x.next(1200), 0);
        Due.is("the empty set", x.looked(0), 0);
        Due.is("costs nothing", x.looked(1), 0);
    }

    /** LOTS 0, 1, 2 ruled with DOUBT for persons 1, 2, 3, by BURNT ones 0, 1, 2 of 6 POINTS; sure 12. */
    private static BurntHall hall() {
        BurntHall x = new BurntHall();
        for (int i = 0; i < 6; i++) x.person(0);
        ActTest.act(x, "proof copy 6; proof deed 50; sure 12; doubt 1; gap 1; notice 0; years 1;");
        for (int l = 0; l < 3; l++) {
            x.lot(10, 0);
            x.root(l, 0, 0);
            x.burnt();
            x.paper(1, l, 0, l + 1, l, 10, 20);
            x.claim(l + 1, l);
            x.sit(l);
            Due.is("with DOUBT", x.ruled(l, 2), 2);
        }
        return x;
    }

    private static void settles() {
        BurntHall x = hall();
        Due.is("a set of none", x.settles(0), 0);
        Due.is("no such PLACE", x.settles(1), Due.RANGE);
        x.place(5, 0, 5);
        x.place(5, 0, 1);
        x.place(5, 1, 6);
        x.place(5, 1, 99);
        Due.is("one point less", x.settles(1), 0);
        Due.is("both of one", x.settles(3), 1);
        Due.is("of another", x.settles(4), 1);
        Due.is("twice the same", x.settles(12), 1);
        Due.is("all", x.settles(15), 2);
        Due.is("no such PLACE", x.settles(16), Due.RANGE);
        x.paper(1, 2, 0, 3, 2, 10, 20);
        Due.is("what is SURE as it is", x.settles(0), 1);
        Due.is("it too", x.settles(15), 3);
        x.pass(1);
        ActTest.act(x, "proof copy 6; sure 13; doubt 1; gap 1;");
        Due.is("by THE ACT of today", x.settles(15), 1);
        Due.is("99 is enough", x.settles(8), 1);
        x.pass(1);
        ActTest.act(x, "proof copy 6; sure 12; doubt 1; gap 0;");
        x.same(0, 5);
        Due.is("without GAPS", x.settles(15), 3);
        x.pass(1);
        x.dead(0, 5);
        Due.is("who gave can't be", x.settles(15), 0);
    }

    /** A CHAIN without LINKS is SURE even by a sure of 999. */
    private static void bare() {
        BurntHall x = hall();
        x.place(1, 0, 1);
        x.pass(1);
        ActTest.act(x, "proof copy 6; sure 999;");
        Due.is("far from it", x.settles(1), 0);
        x.same(0, 1);
        Due.is("who held it ever", x.settles(0), 1);
        Due.is("with points likewise", x.settles(1), 1);
    }

    private static void notShown() {
        BurntHall x = new BurntHall();
        for (int i = 0; i < 3; i++) x.person(0);
        x.lot(10, 0);
        x.root(0, 0, 0);
        ActTest.act(x, "proof copy 6; sure 12; doubt 0; gap 1; notice 0;");
        x.burnt();
        x.paper(1, 0, -1, 1, 0, 10, 20);
        x.claim(1, 0);
        x.sit(0);
        Due.is("with DOUBT", x.ruled(0, 2), 2);
        x.place(1, 0, 99);
        Due.is("nothing is added to what isn't SHOWN", x.settles(1), 0);
        x.paper(1, 0, 2, -1, -1, 10, 20);
        Due.is("a GAP, but SHOWN", x.settles(1), 1);
        x.pass(1);
        ActTest.act(x, "proof copy 6; sure 12; doubt 0; gap 0; notice 0;");
        Due.is("too many GAPS", x.settles(1), 0);
    }

    private static void links() {
        BurntHall x = new BurntHall();
        for (int i = 0; i < 4; i++) x.person(0);
        x.lot(10, 0);
        x.root(0, 0, 0);
        ActTest.act(x, "proof copy 6; proof index 4; proof deed 40; sure 12; doubt 1; notice 0;");
        int[] kinds = {1, 0, 2};
        for (int i = 0; i < 3; i++) {
            x.burnt();
            x.paper(kinds[i], i, i, i + 1, 0, 10 * i, 20 * i);
        }
        x.claim(3, 0);
        x.sit(0);
        Due.is("with DOUBT", x.ruled(0, 2), 2);
        x.place(1, 0, 6);
        x.place(1, 1, 99);
        x.place(1, 2, 8);
        x.place(1, 2, 7);
        Due.is("one LINK", x.settles(1), 0);
        Due.is("another LINK", x.settles(4), 0);
        Due.is("each its own", x.settles(5), 1);
        Due.is("one too few", x.settles(9), 0);
        Due.is("together", x.settles(13), 1);
        x.next(1200);
        Due.is("the least cost", x.looked(0), 5);
        Due.is("two", x.looked(1), 2);
    }

    private static void next() {
        BurntHall x = hall();
        x.place(9, 0, 6);
        x.place(4, 1, 6);
        x.place(5, 0, 6);
        x.place(4, 1, 6);
        x.place(3, 2, 5);
        x.place(3, 2, 1);
        Due.is("for 3", x.next(3), 0);
        Due.is("the empty set", x.looked(0), 0);
        Due.is("for 4", x.next(4), 1);
        Due.is("the least set", x.looked(0), 2);
        Due.is("its cost", x.looked(1), 4);
        Due.is("for 9", x.next(9), 2);
        Due.is("4 and 5", x.looked(0), 6);
        Due.is("9", x.looked(1), 9);
        Due.is("for 14", x.next(14), 2);
        Due.is("4 and 5 cost least", x.looked(0), 6);
        Due.is("for 15", x.next(15), 3);
        Due.is("all three", x.looked(0), 2 + 4 + 16 + 32);
        Due.is("15", x.looked(1), 15);
        Due.is("for 1200", x.next(1200), 3);
        Due.is("the same", x.looked(0), 2 + 4 + 16 + 32);
        Due.is("for 0", x.next(0), 0);
        Due.is("nothing", x.looked(1), 0);
    }

    private static void looked() {
        BurntHall x = hall();
        x.place(9, 0, 6);
        Due.is("nothing yet", x.looked(0), Due.NONE);
        x.next(9);
        Due.is("the set", x.looked(0), 1);
        Due.is("the cost", x.looked(1), 9);
        Due.is("looked 2", x.looked(2), Due.NONE);
        Due.is("looked -1", x.looked(-1), Due.NONE);
        x.paper(1, 0, 0, 1, 0, 10, 20);
        Due.is("stays", x.looked(0), 1);
        Due.is("settles leaves it", x.settles(0), 1);
        Due.is("stays", x.looked(1), 9);
        x.place(9, 0, 6);
        Due.is("a place() came", x.looked(0), Due.NONE);
        Due.is("a place() came", x.looked(1), Due.NONE);
        Due.is("now SURE as it is", x.next(9), 1);
        Due.is("by nothing", x.looked(0), 0);
    }

    private static void byTime() {
        BurntHall x = hall();
        x.place(9, 0, 6);
        x.pass(364);
        Due.is("not yet", x.settles(1), 1);
        x.pass(1);
        Due.is("SURE by time", x.settles(1), 0);
        Due.is("nothing to settle", x.next(100), 0);
    }

    private static void counts() {
        BurntHall x = hall();
        x.pass(9);
        x.dead(0, 500);
        x.mortgage(0, 0, 5, 1, 2);
        x.fund(77);
        x.place(1, 0, 1);
        x.claim(5, 0);
        x.feed(0, 0, 0, 0, 0);
        int[] want = {9, 6, 1, 3, 1, 3, 3, 1, 4, 77, 1, 20};
        for (int what = 0; what < want.length; what++) Due.is("count " + what, x.count(what), want[what]);
        int[] states = {1, 0, 3, 0};
        for (int k = 0; k < 4; k++) Due.is("count " + (20 + k), x.count(20 + k), states[k]);
        for (int what : new int[] {-1, 12, 19, 24, Integer.MAX_VALUE, Integer.MIN_VALUE}) {
            Due.is("count " + what, x.count(what), Due.NONE);
        }
    }
}
