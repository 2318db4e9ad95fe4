/** Promises 42 to 48: CLAIMS, SITTINGS, what they are WORTH, rulings, OPENED, the COIN. */
public final class ClaimsTest {
    public static void main(String[] args) {
        claims();
        full();
        notice();
        worth();
        worthByYears();
        choice();
        choiceOfDoubt();
        noneHas();
        sureByTime();
        openedByNot();
        openedByAnother();
        openedTwice();
        coin();
        Due.end();
    }

    /** Eight persons, LOTS 0 and 1 with ROOTS of person 0; copies weigh 6, deeds 12; sure 12, doubt 6, gap 1. */
    private static BurntHall hall(String more) {
        BurntHall x = new BurntHall();
        for (int i = 0; i < 8; i++) x.person(0);
        x.lot(10, 0);
        x.lot(10, 0);
        x.root(0, 0, 0);
        x.root(1, 0, 0);
        ActTest.act(x, "proof copy 6; proof deed 12; proof index 3; proof tax 2; sure 12; doubt 6; gap 1;" + more);
        return x;
    }

    private static int deed(BurntHall x, int kind, int gave, int got, int l) {
        int b = x.burnt();
        x.paper(kind, b, gave, got, l, 10, 20);
        return b;
    }

    private static void claims() {
        BurntHall x = hall("");
        x.split(1, 50, 2, 5, 5, 0, 0);
        Due.is("no person", x.claim(8, 0), Due.RANGE);
        Due.is("no person", x.claim(-1, 0), Due.RANGE);
        Due.is("no lot", x.claim(0, 4), Due.RANGE);
        Due.is("no lot", x.claim(0, -1), Due.RANGE);
        Due.is("not there yet", x.claim(0, 2), Due.STATE);
        Due.is("there still", x.claim(3, 1), 0);
        x.pass(50);
        Due.is("there no more", x.claim(0, 1), Due.STATE);
        Due.is("there now", x.claim(7, 2), 1);
        Due.is("who", x.claimed(1, 0), 7);
        Due.is("lot", x.claimed(1, 1), 2);
        Due.is("noticed", x.claimed(1, 2), 50);
        Due.is("not RULED", x.claimed(1, 3), 0);
        Due.is("pounds", x.claimed(1, 4), 0);
        Due.is("claimed 5", x.claimed(1, 5), -9);
        Due.is("claimed -1", x.claimed(1, -1), -9);
        Due.is("no claim", x.claimed(2, 0), -9);
        Due.is("no claim", x.claimed(-1, 0), -9);
        Due.is("no claim", x.worth(2), Due.RANGE);
        Due.is("no claim", x.worth(-1), Due.RANGE);
        Due.is("count", x.count(8), 2);
        Due.is("those not RULED", x.count(20), 2);
    }

    private static void full() {
        BurntHall x = hall("notice 0;");
        for (int i = 0; i < 30; i++) Due.is("claim " + i, x.claim(i % 8, i % 2), i);
        Due.is("the 31st", x.claim(0, 0), Due.FULL);
        Due.is("RANGE ahead of FULL", x.claim(8, 0), Due.RANGE);
        x.split(0, 0, 2, 5, 5, 0, 0);
        Due.is("STATE ahead of FULL", x.claim(0, 0), Due.STATE);
        Due.is("all heard", x.sit(1), 15);
        Due.is("NOT", x.count(23), 15);
    }

    private static void notice() {
        BurntHall x = hall("notice 5;");
        x.claim(0, 0);
        x.pass(4);
        x.claim(1, 0);
        Due.is("none is old enough", x.sit(0), 0);
        Due.is("not RULED", x.claimed(0, 3), 0);
        Due.is("not ruled", x.ruled(0, 0), Due.NONE);
        x.pass(1);
        Due.is("one is", x.sit(0), 1);
        Due.is("SURE", x.claimed(0, 3), 1);
        Due.is("the other waits", x.claimed(1, 3), 0);
        Due.is("ruled", x.sit(0), Due.STATE);
        Due.is("no lot", x.sit(2), Due.RANGE);
        Due.is("no lot", x.sit(-1), Due.RANGE);
        Due.is("which", x.ruled(0, 0), 0);
        Due.is("when", x.ruled(0, 1), 5);
        Due.is("how", x.ruled(0, 2), 1);
        Due.is("ruled 3", x.ruled(0, 3), Due.NONE);
        Due.is("ruled -1", x.ruled(0, -1), Due.NONE);
        Due.is("no lot", x.ruled(2, 0), Due.NONE);
        Due.is("no lot", x.ruled(-1, 0), Due.NONE);
        Due.is("no claims on it", x.sit(1), 0);
        Due.is("not ruled", x.ruled(1, 1), Due.NONE);
        Due.is("SURE isn't OPENED", x.open(0), Due.STATE);
    }

    private static void worth() {
        BurntHall x = hall("");
        deed(x, 0, 0, 1, 0);
        deed(x, 1, 0, 2, 0);
        deed(x, 2, 0, 3, 0);
        deed(x, 0, 7, 4, 0);
        deed(x, 0, -1, 5, 0);
        for (int p = 0; p < 7; p++) x.claim(p, 0);
        int[] want = {1, 1, 2, 3, 1, 3, 3};
        for (int p = 0; p < 7; p++) Due.is("worth " + p, x.worth(p), want[p]);
        x.pass(1);
        ActTest.act(x, "proof copy 6; proof deed 12; sure 13; doubt 6; gap 0;");
        int[] then = {1, 2, 2, 3, 3, 3, 3};
        for (int p = 0; p < 7; p++) Due.is("worth by the next ACT " + p, x.worth(p), then[p]);
        x.pass(1);
        ActTest.act(x, "sure 999; doubt 0; gap 20;");
        int[] last = {1, 3, 3, 3, 3, 3, 3};
        for (int p = 0; p < 7; p++) Due.is("worth by the last ACT " + p, x.worth(p), last[p]);
        x.pass(1);
        ActTest.act(x, "proof copy 6; proof deed 12; sure 0; gap 1;");
        int[] all = {1, 1, 1, 3, 1, 1, 3};
        for (int p = 0; p < 7; p++) Due.is("worth with sure 0 " + p, x.worth(p), all[p]);
    }

    private static void worthByYears() {
        BurntHall x = hall("long 2;");
        x.pass(729);
        x.claim(1, 0);
        x.paper(4, -1, -1, 1, 0, 400, 500);
        Due.is("one year", x.worth(0), 3);
        x.paper(4, -1, -1, 1, 0, 0, 10);
        Due.is("two, the last that of today", x.worth(0), 2);
        x.pass(1);
        Due.is("a new year", x.worth(0), 3);
        x.paper(4, -1, -1, 1, 0, 730, 730);
        Due.is("three", x.worth(0), 2);
    }

    private static void choice() {
        BurntHall x = hall("notice 0;");
        deed(x, 0, 7, 1, 0);
        deed(x, 0, 0, 2, 0);
        deed(x, 0, 0, 3, 0);
        int strong = deed(x, 0, 0, 4, 0);
        x.claim(6, 0);
        x.claim(1, 0);
        x.claim(2, 0);
        x.claim(3, 0);
        Due.is("heard", x.sit(0), 4);
        Due.is("fewest GAPS, then the least number", x.ruled(0, 0), 2);
        int[] want = {3, 3, 1, 3};
        for (int c = 0; c < 4; c++) Due.is("claim " + c, x.claimed(c, 3), want[c]);
        Due.is("SURE", x.count(21), 1);
        Due.is("NOT", x.count(23), 3);
        BurntHall y = hall("notice 0;");
        deed(y, 0, 0, 1, 0);
        y.paper(1, deed(y, 0, 0, 2, 0), 0, 2, 0, 10, 20);
        deed(y, 1, 0, 3, 0);
        y.claim(3, 0);
        y.claim(1, 0);
        y.claim(2, 0);
        y.sit(0);
        Due.is("the greatest WEAKEST", y.ruled(0, 0), 2);
        Due.is("another", strong, 3);
    }

    private static void choiceOfDoubt() {
        BurntHall x = hall("notice 0; long 1; years 3;");
        deed(x, 1, 7, 1, 0);
        deed(x, 1, 7, 2, 0);
        x.paper(4, -1, -1, 3, 0, 0, 5);
        x.claim(3, 0);
        x.claim(2, 0);
        x.claim(1, 0);
        Due.is("by years", x.worth(0), 2);
        Due.is("all", x.sit(0), 3);
        Due.is("one without a CHAIN is last", x.ruled(0, 0), 1);
        Due.is("with DOUBT", x.ruled(0, 2), 2);
        Due.is("NOT", x.claimed(0, 3), 3);
        x.claim(3, 1);
        x.paper(4, -1, -1, 3, 1, 0, 5);
        Due.is("alone", x.sit(1), 1);
        Due.is("it has it", x.ruled(1, 0), 3);
        Due.is("with DOUBT", x.ruled(1, 2), 2);
    }

    private static void noneHas() {
        BurntHall x = hall("notice 0;");
        x.claim(5, 0);
        Due.is("heard", x.sit(0), 1);
        Due.is("NOT", x.claimed(0, 3), 3);
        Due.is("not ruled", x.ruled(0, 2), Due.NONE);
        Due.is("not again", x.sit(0), 0);
        deed(x, 0, 0, 5, 0);
        Due.is("NOT stays", x.claimed(0, 3), 3);
        x.claim(6, 0);
        deed(x, 0, 0, 6, 0);
        Due.is("another is heard", x.sit(0), 1);
        Due.is("and has it", x.ruled(0, 0), 1);
        Due.is("the first stays NOT", x.claimed(0, 3), 3);
        Due.is("not with DOUBT", x.open(0), Due.STATE);
        Due.is("no lot", x.open(2), Due.RANGE);
        Due.is("no lot", x.open(-1), Due.RANGE);
        Due.is("never ruled", x.open(1), Due.STATE);
    }

    private static void sureByTime() {
        BurntHall x = hall("notice 0; years 2;");
        deed(x, 1, 0, 1, 0);
        x.pass(100);
        x.claim(1, 0);
        x.sit(0);
        ActTest.act(x, "years 50;");
        x.pass(729);
        Due.is("not yet", x.ruled(0, 2), 2);
        Due.is("not yet, the claim", x.claimed(0, 3), 2);
        Due.is("not yet, the count", x.count(22), 1);
        x.pass(1);
        Due.is("by the ACT of its ruling", x.ruled(0, 2), 1);
        Due.is("the claim", x.claimed(0, 3), 1);
        Due.is("the count", x.count(21), 1);
        Due.is("no DOUBT more", x.count(22), 0);
        Due.is("the day stays", x.ruled(0, 1), 100);
        Due.is("isn't OPENED", x.open(0), Due.STATE);
        Due.is("isn't heard", x.sit(0), Due.STATE);
    }

    private static void openedByNot() {
        BurntHall x = hall("notice 0; years 1; fund 7;");
        deed(x, 1, 0, 1, 0);
        x.claim(1, 0);
        x.claim(2, 0);
        x.sit(0);
        x.fund(100);
        Due.is("nothing of that is so", x.open(0), 0);
        Due.is("stays", x.ruled(0, 2), 2);
        x.pass(364);
        x.dead(1, 9);
        Due.is("would be NOT", x.worth(0), 3);
        Due.is("OPENED", x.open(0), 1);
        Due.is("from the COIN", x.claimed(0, 4), 7);
        Due.is("the COIN", x.count(9), 93);
        Due.is("as not RULED", x.count(20), 2);
        Due.is("not ruled", x.ruled(0, 0), Due.NONE);
        Due.is("isn't OPENED again", x.open(0), Due.STATE);
        Due.is("heard again", x.sit(0), 2);
        Due.is("both NOT", x.count(23), 2);
    }

    private static void openedByAnother() {
        BurntHall x = hall("notice 5; years 1; fund 7;");
        deed(x, 1, 0, 1, 0);
        x.claim(1, 0);
        x.claim(2, 0);
        x.claim(3, 1);
        x.pass(5);
        x.sit(0);
        x.sit(1);
        x.claim(3, 0);
        x.fund(5);
        deed(x, 1, 0, 3, 0);
        Due.is("another with DOUBT is not enough", x.open(0), 0);
        x.paper(1, 1, 0, 3, 0, 10, 20);
        Due.is("another that would be SURE", x.worth(3), 1);
        x.pass(5);
        ActTest.act(x, "proof copy 6; sure 12; doubt 6; gap 1; notice 20; fund 6;");
        Due.is("OPENED", x.open(0), 1);
        Due.is("what there is", x.claimed(0, 4), 5);
        Due.is("the COIN is empty", x.count(9), 0);
        Due.is("the other LOT's CLAIM stays", x.claimed(2, 3), 3);
        Due.is("none is old enough now", x.sit(0), 0);
        x.pass(10);
        Due.is("the first two", x.sit(0), 2);
        Due.is("with DOUBT again", x.ruled(0, 2), 2);
        Due.is("that day", x.ruled(0, 1), 20);
        BurntHall y = hall("notice 0; years 1; fund 7;");
        deed(y, 1, 0, 1, 0);
        y.claim(1, 0);
        y.sit(0);
        y.paper(1, 0, 0, 1, 0, 10, 20);
        Due.is("it would be SURE itself", y.worth(0), 1);
        Due.is("which opens nothing", y.open(0), 0);
    }

    private static void openedTwice() {
        BurntHall x = hall("notice 0; years 9; fund 7;");
        deed(x, 1, 0, 1, 0);
        x.claim(1, 0);
        x.sit(0);
        x.fund(50);
        x.pass(1);
        ActTest.act(x, "notice 0; years 9; fund 4;");
        Due.is("without WEIGHTS", x.open(0), 1);
        Due.is("by the fund of today", x.claimed(0, 4), 4);
        x.pass(1);
        ActTest.act(x, "proof copy 6; sure 12; doubt 6; notice 0; years 9; fund 9;");
        x.sit(0);
        Due.is("with DOUBT again", x.ruled(0, 2), 2);
        x.pass(1);
        ActTest.act(x, "fund 9;");
        Due.is("OPENED again", x.open(0), 1);
        Due.is("both sums", x.claimed(0, 4), 13);
        Due.is("the COIN", x.count(9), 37);
    }

    private static void coin() {
        BurntHall x = new BurntHall();
        Due.is("none", x.fund(0), Due.RANGE);
        Due.is("below", x.fund(-5), Due.RANGE);
        Due.is("too much", x.fund(100000), Due.RANGE);
        Due.is("the least", x.fund(1), 1);
        for (int i = 1; i <= 100; i++) Due.is("fund " + i, x.fund(99999), 1 + 99999 * i);
        Due.is("above the most", x.fund(99), Due.RANGE);
        Due.is("the most", x.fund(98), 9999999);
        Due.is("no more", x.fund(1), Due.RANGE);
        Due.is("count", x.count(9), 9999999);
    }
}
