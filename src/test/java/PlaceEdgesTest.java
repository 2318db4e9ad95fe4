/** Boundary cases of promises 49 to 53: PLACES to look, what they SETTLE, NEXT, and the counts. */
public final class PlaceEdgesTest extends Edges {
    private static final String ACT = "proof copy 6;sure 12;doubt 1;gap 1;notice 0;years 1;";

    public static void main(String[] args) {
        run(PlaceEdgesTest.class, 49, 53);
    }

    /** LOTS 0 .. n - 1 ruled with DOUBT for person 1, by BURNT ones of the same numbers, 6 POINTS each; sure 12. */
    private static Hall hall(int n) {
        Hall x = new Hall();
        x.persons(3);
        x.act(ACT);
        for (int l = 0; l < n; l++) {
            x.lot(10, 0);
            x.root(l, 0, 0);
            x.burnt();
            x.paper(1, l, 0, 1, l, 10, 20);
            x.claim(1, l);
            x.sit(l);
            is("with DOUBT", x.ruled(l, 2), 2);
        }
        return x;
    }

    static void p49NoSuchNumbers() {
        Hall x = new Hall();
        is("no BURNT one", x.place(1, 0, 1), RANGE);
        x.burnts(30);
        each("cost", RANGE, n -> x.place(n, 0, 1), beyond(1, 99));
        each("BURNT one", RANGE, b -> x.place(1, b, 1), beyond(0, 29));
        each("points", RANGE, n -> x.place(1, 0, n), beyond(1, 99));
        is("none came", x.count(10), 0);
        is("the least", x.place(1, 0, 1), 0);
        is("the greatest", x.place(99, 29, 99), 1);
    }

    static void p49TwelveAreFull() {
        Hall x = hall(1);
        for (int i = 0; i < 12; i++) is("PLACE " + i, x.place(99, 0, i == 11 ? 6 : 1), i);
        is("the 13th", x.place(1, 0, 99), FULL);
        is("RANGE when full: cost", x.place(100, 0, 1), RANGE);
        is("RANGE when full: points", x.place(1, 0, 0), RANGE);
        is("PLACES", x.count(10), 12);
        is("the twelfth SETTLES", x.settles(1 << 11), 1);
        is("the 13th is none", x.settles(1 << 12), RANGE);
    }

    static void p50NoSuchSet() {
        Hall x = hall(1);
        is("none of none", x.settles(0), 0);
        each("without PLACES", RANGE, x::settles, 1, 2, -1, LEAST, MOST);
        x.place(1, 0, 1);
        x.place(1, 0, 5);
        is("all of two", x.settles(3), 1);
        each("of two PLACES", RANGE, x::settles, 4, 5, 7, -1, 1 << 30, LEAST, MOST);
        for (int i = 0; i < 10; i++) x.place(1, 0, 1);
        is("all of twelve", x.settles(4095), 1);
        each("of twelve", RANGE, x::settles, 4096, 4097, 8191, -1, LEAST, MOST);
    }

    static void p50JustSure() {
        Hall x = hall(1);
        x.place(1, 0, 5);
        x.place(1, 0, 6);
        x.place(1, 0, 1);
        is("11", x.settles(1), 0);
        is("12", x.settles(2), 1);
        is("7", x.settles(4), 0);
        is("5 and 1", x.settles(5), 1);
        x.paper(1, 0, 0, 1, 0, 10, 20);
        is("12 as it is", x.settles(0), 1);
    }

    static void p50NothingToWhatIsntShown() {
        Hall x = hall(1);
        x.place(1, 0, 99);
        is("SHOWN", x.settles(1), 1);
        x.paper(1, 0, 2, NONE, NONE, 10, 20);
        is("who gave is a QUARREL", x.shown(0, 0, 8), 0);
        is("nothing is added", x.settles(1), 0);
        x.act("proof copy 6;sure 0;gap 1;");
        is("0 is enough for 0", x.settles(0), 1);
        is("with points too", x.settles(1), 1);
    }

    static void p50OnePointIsShown() {
        Hall x = hall(1);
        x.act("proof copy 1;sure 12;gap 1;");
        x.place(1, 0, 11);
        x.place(1, 0, 10);
        is("1 and 11", x.settles(1), 1);
        is("1 and 10", x.settles(2), 0);
    }

    static void p50WithoutLinks() {
        Hall x = hall(1);
        x.same(0, 1);
        x.act("proof copy 6;sure 999;gap 0;");
        is("999 is enough for 999", x.settles(0), 1);
        is("next", x.next(0), 1);
    }

    static void p50GapsNotAboveGap() {
        Hall x = hall(1);
        x.place(1, 0, 6);
        x.paper(1, 0, 2, NONE, NONE, 10, 20);
        x.paper(1, 0, 2, NONE, NONE, 10, 20);
        is("a GAP", x.chain(0, 1, 0), 1);
        is("gap 1", x.settles(1), 1);
        x.act("proof copy 6;sure 12;gap 0;");
        is("gap 0", x.settles(1), 0);
    }

    static void p50NotSureByTime() {
        Hall x = hall(1);
        x.place(1, 0, 6);
        x.pass(364);
        is("a day ahead", x.settles(1), 1);
        x.pass(1);
        is("SURE by time", x.settles(1), 0);
    }

    static void p50OnlyThoseRuledWithDoubt() {
        Hall x = new Hall();
        x.persons(3);
        x.act(ACT);
        x.lots(3);
        for (int l = 0; l < 3; l++) x.root(l, 0, 0);
        x.burnt();
        x.paper(1, 0, 0, 1, 0, 10, 20);
        x.place(1, 0, 99);
        x.claim(0, 1);
        x.claim(1, 2);
        is("no CLAIM heard", x.settles(1), 0);
        x.sit(1);
        x.sit(2);
        is("SURE and NOT", x.settles(1), 0);
        x.claim(1, 0);
        is("a CLAIM not heard", x.settles(1), 0);
        x.sit(0);
        is("with DOUBT", x.settles(1), 1);
    }

    static void p50WithoutAChain() {
        Hall x = new Hall();
        x.persons(3);
        x.lots(1);
        x.burnt();
        x.act("proof tax 2;long 1;notice 0;sure 0;");
        x.paper(4, NONE, NONE, 1, 0, 0, 364);
        x.claim(1, 0);
        x.sit(0);
        is("by years alone", x.ruled(0, 2), 2);
        x.place(1, 0, 99);
        is("there is no CHAIN", x.settles(1), 0);
        x.root(0, 1, 0);
        is("there is one now", x.settles(0), 1);
    }

    static void p50EightLinks() {
        Hall x = new Hall();
        x.persons(9);
        x.act(ACT);
        x.lots(1);
        x.root(0, 0, 0);
        x.burnts(8);
        for (int b = 0; b < 8; b++) x.paper(1, b, b, b + 1, 0, 10, 20);
        x.claim(8, 0);
        x.sit(0);
        is("with DOUBT", x.ruled(0, 2), 2);
        for (int b = 0; b < 8; b++) x.place(1, b, 6);
        is("each its own", x.settles(255), 1);
        for (int b = 0; b < 8; b++) is("without " + b, x.settles(255 ^ 1 << b), 0);
        is("next", x.next(8), 1);
        is("all eight", x.looked(0), 255);
        is("for one less", x.next(7), 0);
        x.lots(1);
        x.root(1, 0, 0);
        x.burnt();
        x.paper(1, 8, 0, 1, 1, 10, 20);
        x.claim(1, 1);
        x.sit(1);
        x.place(1, 8, 6);
        is("another LOT by its own", x.settles(256), 1);
        is("both", x.settles(511), 2);
    }

    static void p50ThirtyLots() {
        Hall x = hall(30);
        x.place(1, 29, 6);
        x.place(1, 0, 6);
        is("the last LOT", x.settles(1), 1);
        is("both", x.settles(3), 2);
        x.act("proof copy 12;sure 12;gap 1;");
        is("all thirty", x.settles(0), 30);
    }

    static void p50EachLotItsOwnLack() {
        Hall x = hall(3);
        x.paper(1, 1, 0, 1, 1, 10, 20);
        x.act("proof copy 6;sure 20;gap 1;");
        x.place(1, 0, 13);
        x.place(1, 1, 7);
        x.place(1, 2, 14);
        x.place(1, 1, 1);
        x.place(1, 0, 1);
        int[] settled = {0, 0, 0, 0, 1, 1, 1, 1};
        for (int set = 0; set < 8; set++) is("settles " + set, x.settles(set), settled[set]);
        is("the second's own", x.settles(2 | 8), 1);
        is("the first's own", x.settles(1 | 16), 1);
        is("all", x.settles(31), 3);
        is("next", x.next(3), 2);
        is("the least set for 3", x.looked(0), 4 | 2 | 8);
    }

    /** POINTS of a BURNT one are the least of the three, whichever that is. */
    static void p50LeastOfTheThree() {
        for (int least = 0; least < 3; least++) {
            Hall x = hall(1);
            x.paper(1, 0, least == 0 ? NONE : 0, least == 1 ? NONE : 1, least == 2 ? NONE : 0, 10, 20);
            is("POINTS", x.shown(0, 0, 8), 6);
            x.place(1, 0, 5);
            x.place(1, 0, 6);
            is("as it is", x.settles(0), 0);
            is("with 5", x.settles(1), 0);
            is("with 6", x.settles(2), 1);
        }
    }

    static void p51NoSuchSum() {
        Hall x = hall(1);
        each("sum", RANGE, x::next, beyond(0, 1200));
        is("none was found", x.looked(0), NONE);
        is("0", x.next(0), 0);
        is("1200", x.next(1200), 0);
    }

    static void p51NoPlaces() {
        Hall x = hall(1);
        is("nothing", x.next(1200), 0);
        is("the empty set", x.looked(0), 0);
        is("its cost", x.looked(1), 0);
        x.act("proof copy 12;sure 12;");
        is("SURE as it is", x.next(0), 1);
        is("the empty set", x.looked(0), 0);
    }

    static void p51CostNotAboveTheSum() {
        Hall x = hall(1);
        x.place(50, 0, 6);
        is("one less", x.next(49), 0);
        is("nothing", x.looked(0), 0);
        is("just that", x.next(50), 1);
        is("the set", x.looked(0), 1);
        is("its cost", x.looked(1), 50);
        is("the greatest sum", x.next(1200), 1);
        is("0", x.next(0), 0);
    }

    static void p51AllTwelve() {
        Hall x = hall(1);
        x.act("proof copy 6;sure 18;");
        for (int i = 0; i < 12; i++) x.place(99, 0, 1);
        is("1187 is too little", x.next(1187), 0);
        is("1188 is enough", x.next(1188), 1);
        is("all", x.looked(0), 4095);
        is("their cost", x.looked(1), 1188);
        is("1200 too", x.next(1200), 1);
    }

    static void p51MostThenLeastCostThenLeastSet() {
        Hall x = hall(2);
        x.place(5, 0, 6);
        x.place(4, 1, 6);
        x.place(4, 0, 6);
        x.place(4, 0, 6);
        x.place(3, 0, 5);
        x.place(1, 0, 1);
        is("for 4", x.next(4), 1);
        is("the least set of cost 4", x.looked(0), 2);
        is("for 8", x.next(8), 2);
        is("the least set of cost 8", x.looked(0), 6);
        is("cost 8", x.looked(1), 8);
        is("for 1200", x.next(1200), 2);
        is("most, then the least cost", x.looked(1), 8);
        is("the same set", x.looked(0), 6);
        is("for 3", x.next(3), 0);
        is("nothing is settled for nothing", x.looked(0), 0);
    }

    static void p52NothingYet() {
        Hall x = hall(1);
        each("looked", NONE, x::looked, -1, 0, 1, 2, LEAST, MOST);
        x.next(1201);
        each("behind RANGE", NONE, x::looked, 0, 1);
        x.next(0);
        each("no such", NONE, x::looked, -1, 2, 3, LEAST, MOST);
        is("the set", x.looked(0), 0);
        is("its cost", x.looked(1), 0);
    }

    static void p52OfTheLatestNext() {
        Hall x = hall(1);
        x.place(9, 0, 6);
        x.next(9);
        x.next(8);
        is("the latest", x.looked(0), 0);
        x.next(9);
        is("RANGE", x.next(-1), RANGE);
        is("RANGE", x.next(1201), RANGE);
        is("stays", x.looked(0), 1);
        is("its cost stays", x.looked(1), 9);
        x.settles(0);
        x.pass(365);
        is("behind a year too", x.looked(1), 9);
    }

    static void p52APlaceCame() {
        Hall x = hall(1);
        x.place(9, 0, 6);
        x.next(9);
        is("a PLACE", x.place(9, 0, 6), 1);
        is("the set", x.looked(0), NONE);
        is("its cost", x.looked(1), NONE);
        x.next(9);
        is("a new next()", x.looked(0), 1);
    }

    static void p52NoPlaceCame() {
        Hall x = hall(1);
        for (int i = 0; i < 12; i++) x.place(9, 0, 6);
        x.next(9);
        is("RANGE", x.place(0, 0, 6), RANGE);
        is("FULL", x.place(9, 0, 6), FULL);
        is("none came: it stays", x.looked(0), 1);
        is("its cost", x.looked(1), 9);
    }

    static void p53NoSuchWhat() {
        Hall x = new Hall();
        each("count", NONE, x::count, -1, 12, 13, 19, 24, 25, LEAST, MOST);
        Hall y = hall(2);
        each("count", NONE, y::count, -1, 12, 13, 19, 24, 25, LEAST, MOST);
    }

    static void p53EachOfThem() {
        Hall x = hall(2);
        x.pass(7);
        x.dead(0, 500);
        x.same(0, 2);
        x.mortgage(0, 0, 1, 0, 0);
        x.fund(77);
        x.place(1, 0, 1);
        x.burnt();
        x.lots(3);
        x.claim(1, 3);
        x.claim(2, 3);
        x.paper(1, NONE, NONE, NONE, NONE, 0, 0);
        x.feed(0, 0, 0, 0, 0);
        int[] want = {7, 3, 2, 5, 1, 3, 3, 1, 4, 77, 1, 20};
        for (int what = 0; what < want.length; what++) is("count " + what, x.count(what), want[what]);
        int[] states = {2, 0, 2, 0};
        for (int k = 0; k < 4; k++) is("count " + (20 + k), x.count(20 + k), states[k]);
    }

    static void p53StatesOfClaims() {
        Hall x = hall(2);
        x.lots(1);
        x.claim(2, 2);
        x.claim(2, 2);
        x.sit(2);
        x.claim(2, 2);
        int[] states = {1, 0, 2, 2};
        for (int k = 0; k < 4; k++) is("ahead, count " + (20 + k), x.count(20 + k), states[k]);
        x.pass(364);
        is("a day ahead", x.count(22), 2);
        x.pass(1);
        int[] later = {1, 2, 0, 2};
        for (int k = 0; k < 4; k++) is("behind, count " + (20 + k), x.count(20 + k), later[k]);
        is("CLAIMS", x.count(8), 5);
    }

    static void p53FullOfAll() {
        Hall x = new Hall();
        x.persons(80);
        x.lots(60);
        x.burnts(30);
        for (int i = 0; i < 120; i++) x.paper(0, NONE, NONE, NONE, NONE, 0, 0);
        for (int i = 0; i < 40; i++) x.mortgage(0, 0, 1, 0, 0);
        for (int i = 0; i < 30; i++) x.claim(0, 0);
        for (int i = 0; i < 12; i++) x.place(1, 0, 1);
        for (int i = 0; i < 8; i++) x.act();
        for (int i = 0; i < 50; i++) x.feed(0, 0, 0, 0, 0);
        x.pass(5000);
        x.pass(4999);
        is("refused", x.person(0), FULL);
        is("refused", x.lot(1, 0), FULL);
        is("refused", x.burnt(), FULL);
        is("refused", x.mortgage(0, 0, 1, 0, 0), FULL);
        is("refused", x.claim(0, 0), FULL);
        is("refused", x.place(1, 0, 1), FULL);
        is("refused", x.feed(0, 0, 0, 0, 0), FULL);
        is("refused", x.pass(1), RANGE);
        int[] want = {9999, 80, 0, 60, 8, 30, 120, 40, 30, 0, 12, 1000};
        for (int what = 0; what < want.length; what++) is("count " + what, x.count(what), want[what]);
        is("not RULED", x.count(20), 30);
    }
}
