/** Boundary cases of promises 1 to 4: a new object, THE TAPE, the CLOCK. */
public final class TapeEdgesTest extends Edges {
    private static final int BLANKS = 0x20202020;

    public static void main(String[] args) {
        run(TapeEdgesTest.class, 1, 4);
    }

    static void p01NothingIsThere() {
        Hall x = new Hall();
        for (int what = 0; what <= 11; what++) is("count " + what, x.count(what), 0);
        for (int what = 20; what <= 23; what++) is("count " + what, x.count(what), 0);
        is("names", x.names(0), 0);
        is("settles of no PLACES", x.settles(0), 0);
        is("next", x.next(0), 0);
        is("a PAGE holds", x.pages(20), 20);
    }

    static void p01DayIsZero() {
        Hall x = new Hall();
        is("the CLOCK's day", x.count(0), 0);
        x.person(0);
        is("a TELLING of today", x.dead(0, 5), 1);
        is("is KNOWN on day 0", x.deadOn(0, 0), 5);
    }

    static void p01NoActIsInForce() {
        int[] untold = {1, 20, 8, 2, 30, 20, 10, 2, 0, 0, 0};
        Hall x = new Hall();
        for (int what = 0; what < untold.length; what++) {
            is("rule " + what + " on day 0", x.rule(0, what), untold[what]);
            is("rule " + what + " on day 9999", x.rule(9999, what), untold[what]);
        }
        is("no FAULT", x.fault(0), 0);
        is("no PLACE of it", x.fault(1), NONE);
    }

    static void p01NothingWasAskedYet() {
        Hall x = new Hall();
        for (int what : new int[] {0, 1, 2, 3, 10, 17}) is("linked " + what, x.linked(what), NONE);
        for (int what : new int[] {0, 1}) is("looked " + what, x.looked(what), NONE);
    }

    static void p01NoPersonsOrLots() {
        Hall x = new Hall();
        is("dead", x.dead(0, 0), RANGE);
        is("deadOn", x.deadOn(0, 0), RANGE);
        is("one", x.one(0, 0, 0), RANGE);
        is("same", x.same(0, 1), RANGE);
        is("split", x.split(0, 0, 2, 1, 1, 1, 1), RANGE);
        is("join", x.join(2, 0, 1, 2, 3, 0, 1), RANGE);
        is("about", x.about(0, 0), NO_SUCH);
        is("line", x.line(0), 0);
        is("bounds", x.bounds("n1;", 0, 0, 0), RANGE);
        is("error", x.error(0), RANGE);
        is("mend", x.mend(0), RANGE);
        is("area", x.area(0), RANGE);
        is("strip", x.strip(0, 1), RANGE);
    }

    static void p01NothingElseByNumber() {
        Hall x = new Hall();
        is("written", x.written(0, 0, 0, 0, 0), RANGE);
        is("weight", x.weight(0, 0), RANGE);
        is("cant", x.cant(0, 0), RANGE);
        is("shown", x.shown(0, 0, 0), NO_SUCH);
        is("root", x.root(0, 0, 0), RANGE);
        is("chain", x.chain(0, 0, 0), RANGE);
        is("judge", x.judge(0, 0, 0), RANGE);
        is("held", x.held(0, 0, 0, 0), RANGE);
        is("mortgage", x.mortgage(0, 0, 1, 0, 0), RANGE);
        is("paid", x.paid(0, 0), RANGE);
        is("stands", x.stands(0, 0, 0), RANGE);
        is("rank", x.rank(0, 0, 0), RANGE);
        is("claim", x.claim(0, 0), RANGE);
        is("sit", x.sit(0), RANGE);
        is("worth", x.worth(0), RANGE);
        is("claimed", x.claimed(0, 0), NO_SUCH);
        is("ruled", x.ruled(0, 0), NONE);
        is("open", x.open(0), RANGE);
        is("place", x.place(1, 0, 1), RANGE);
        is("settles", x.settles(1), RANGE);
    }

    static void p01NoCoin() {
        Hall x = new Hall();
        is("COIN", x.count(9), 0);
        is("the first pounds", x.fund(1), 1);
    }

    static void p01ObjectsShareNothing() {
        Hall x = new Hall();
        Hall y = new Hall();
        x.persons(2);
        x.lot(5, 5);
        x.pass(7);
        x.fund(9);
        x.burnt();
        x.act("gap 3;");
        x.feed(0, 0, 0, 0, 0);
        for (int what = 0; what <= 11; what++) is("count " + what, y.count(what), 0);
        is("its rule", y.rule(9999, 3), 2);
        is("its first person", y.person(0), 0);
    }

    static void p01The512thCall() {
        Hall x = new Hall();
        x.persons(80);
        x.lots(60);
        x.burnts(30);
        for (int i = 0; i < 120; i++) x.paper(i % 7, i % 30, i % 80, (i + 1) % 80, i % 60, i, 9999 - i);
        for (int i = 1; i <= 220; i++) is("TELLING " + i, x.same(i % 80, (i + 7) % 80), i);
        is("the 511th", x.one(0, 1, 0), 1);
        is("the 512th", x.count(2), 220);
    }

    static void p02TwentyBytesEachTime() {
        Hall x = new Hall();
        for (int i = 1; i <= 50; i++) is("feed " + i, x.feed(BLANKS, BLANKS, BLANKS, BLANKS, BLANKS), 20 * i);
    }

    static void p02FullBehind1000() {
        Hall x = new Hall();
        for (int i = 0; i < 50; i++) x.feed(BLANKS, BLANKS, BLANKS, BLANKS, BLANKS);
        is("the 51st", x.feed(0, 0, 0, 0, 0), FULL);
        is("bytes", x.count(11), 1000);
        is("once more", x.feed(LEAST, MOST, -1, 0, 1), FULL);
        is("bytes still", x.count(11), 1000);
    }

    static void p02From980And981() {
        Hall x = new Hall();
        for (int i = 0; i < 50; i++) x.feed(BLANKS, BLANKS, BLANKS, BLANKS, BLANKS);
        x.end(981);
        is("1001 would be too many", x.feed(0, 0, 0, 0, 0), FULL);
        is("none of the twenty came", x.count(11), 981);
        x.end(980);
        is("1000 are not", x.feed(BLANKS, BLANKS, BLANKS, BLANKS, BLANKS), 1000);
    }

    static void p02RefusedFeedLeavesTheText() {
        Hall x = new Hall();
        x.text(times(" ", 976) + "gap 3;");
        is("982 and 20", x.feed(0x3f3f3f3f, 0, 0, 0, 0), FULL);
        is("the text as it was", x.act(), 1);
        is("its rule", x.rule(0, 3), 3);
    }

    static void p02All1000AreRead() {
        Hall x = new Hall();
        x.text(times(" ", 994) + "gap 3;");
        is("bytes", x.count(11), 1000);
        is("a clause at the end", x.act(), 1);
        x.text(times("\n", 999) + "?");
        is("a last byte that is none", x.act(), NONE);
        is("its PLACE", x.fault(1), 999);
        x.text(times(" ", 995) + "gap 3");
        is("no ; in 1000 bytes", x.act(), NONE);
        is("the text's length", x.fault(1), 1000);
    }

    static void p02HighestByteFirst() {
        Hall x = new Hall();
        x.lot(1, 0);
        // n1;e 2;s 3;w 4;n 05;
        x.feed(0x6e313b65, 0x20323b73, 0x20333b77, 0x20343b6e, 0x2030353b);
        is("five lines", x.bounds(0, 0, 0), 5);
        int[] lines = {1, 100002, 200003, 300004, 5};
        for (int i = 0; i < 5; i++) is("line " + i, x.about(0, 10 + i), lines[i]);
    }

    static void p02LeastAndGreatestInt() {
        Hall x = new Hall();
        int[][] fives = {{LEAST, 0, 0, 0, 0}, {BLANKS, MOST, 0, 0, 0}, {BLANKS, BLANKS, -1, 0, 0},
            {BLANKS, BLANKS, BLANKS, BLANKS, 0x20202080}, {BLANKS, BLANKS, BLANKS, 0x202020ff, BLANKS}};
        int[] places = {0, 4, 8, 19, 15};
        for (int i = 0; i < fives.length; i++) {
            int[] f = fives[i];
            is("feed " + i, x.feed(f[0], f[1], f[2], f[3], f[4]), 20);
            is("bytes that are none", x.act(), NONE);
            is("SYNTAX", x.fault(0), 1);
            is("the first of them", x.fault(1), places[i]);
        }
    }

    static void p02BehindWhatThereIs() {
        Hall x = new Hall();
        x.text("gap");
        is("three and twenty", x.feed(0x20333b20, BLANKS, BLANKS, BLANKS, BLANKS), 23);
        is("one text", x.act(), 1);
        is("gap 3", x.rule(0, 3), 3);
    }

    static void p02OnlyReadersEmptyIt() {
        Hall x = new Hall();
        x.text("n5;");
        x.persons(2);
        x.lots(2);
        x.burnt();
        x.pass(1);
        x.dead(0, 5);
        x.same(0, 1);
        x.split(0, 5, 2, 5, 5, 0, 0);
        x.join(2, 2, 3, 0, 0, 6, 10);
        x.error(0);
        x.mend(0);
        x.area(0);
        x.strip(0, 1);
        x.fault(0);
        x.written(0, 0, 0, 0, 0);
        x.pages(3);
        x.root(0, 0, 0);
        x.chain(0, 0, 0);
        x.held(0, 0, 0, 0);
        x.mortgage(0, 0, 1, 0, 0);
        x.paid(0, 0);
        x.claim(0, 1);
        x.sit(1);
        x.open(1);
        x.fund(1);
        x.place(1, 0, 1);
        x.next(0);
        is("bytes", x.count(11), 3);
        is("they are read", x.bounds(1, 0, 0), 1);
        is("then there are none", x.count(11), 0);
    }

    static void p03OfAnEmptyTape() {
        Hall x = new Hall();
        is("end 0", x.end(0), 0);
        each("end", NONE, x::end, 1, -1, 20, 1000, LEAST, MOST);
    }

    static void p03AtTheLength() {
        Hall x = new Hall();
        x.feed(0, 0, 0, 0, 0);
        each("end", NONE, x::end, 21, -1, LEAST, MOST);
        is("bytes", x.count(11), 20);
        is("all of them", x.end(20), 20);
        is("one less", x.end(19), 19);
        is("bytes", x.count(11), 19);
        is("what is gone is gone", x.end(20), NONE);
        is("none at all", x.end(0), 0);
        is("bytes", x.count(11), 0);
    }

    static void p03At1000() {
        Hall x = new Hall();
        for (int i = 0; i < 50; i++) x.feed(BLANKS, BLANKS, BLANKS, BLANKS, BLANKS);
        is("end 1001", x.end(1001), NONE);
        is("end 1000", x.end(1000), 1000);
        is("end 999", x.end(999), 999);
    }

    static void p03FirstBytesAlone() {
        Hall x = new Hall();
        x.text("gap 3;gap 4;");
        x.end(6);
        is("one clause", x.act(), 1);
        is("the first", x.rule(0, 3), 3);
        x.text("gap 5;?");
        is("end -1", x.end(-1), NONE);
        is("end 8", x.end(8), NONE);
        is("a refused end leaves the last byte", x.act(), NONE);
        is("its PLACE", x.fault(1), 6);
    }

    static void p03FeedBehindTheEnd() {
        Hall x = new Hall();
        x.text("gap 3?");
        x.end(5);
        is("five and twenty", x.feed(0x3b202020, BLANKS, BLANKS, BLANKS, BLANKS), 25);
        is("the cut byte is not there", x.act(), 1);
    }

    static void p04OneToFiveThousand() {
        Hall x = new Hall();
        each("pass", RANGE, x::pass, 0, 5001, -1, LEAST, MOST);
        is("the day stays", x.count(0), 0);
        is("pass 1", x.pass(1), 1);
        is("pass 5000", x.pass(5000), 5001);
        is("the day", x.count(0), 5001);
    }

    static void p04To9999() {
        Hall x = new Hall();
        is("pass 5000", x.pass(5000), 5000);
        is("to 10000", x.pass(5000), RANGE);
        is("the day stays", x.count(0), 5000);
        is("to 9999", x.pass(4999), 9999);
        each("pass", RANGE, x::pass, 1, 0, 5000, LEAST, MOST);
        is("the last day", x.count(0), 9999);
    }

    static void p04FromTheDayAheadOfTheLast() {
        Hall x = new Hall();
        x.pass(5000);
        x.pass(4998);
        is("two", x.pass(2), RANGE);
        is("one", x.pass(1), 9999);
    }

    static void p04RefusedPassLeavesWhatIsKnown() {
        Hall x = new Hall();
        x.persons(2);
        x.pass(5);
        is("refused", x.pass(5001), RANGE);
        x.same(0, 1);
        is("KNOWN from the day that it was", x.one(0, 1, 5), 1);
        is("not ahead of it", x.one(0, 1, 4), 0);
    }
}
