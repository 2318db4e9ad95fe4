/** Boundary cases of promises 42 to 48: CLAIMS, SITTING, what is ruled and OPENED, the COIN. */
public final class ClaimEdgesTest extends Edges {
    private static final String PROOFS = "proof copy 6;proof deed 12;proof tax 2;";

    public static void main(String[] args) {
        run(ClaimEdgesTest.class, 42, 48);
    }

    /** Persons 0 .. 7, LOTS 0 and 1 held by person 0 from day 0 on; copies weigh 6, deeds 12, taxes 2. */
    private static Hall hall(String act) {
        Hall x = new Hall();
        x.persons(8);
        x.lots(2);
        x.root(0, 0, 0);
        x.root(1, 0, 0);
        x.act(PROOFS + act);
        return x;
    }

    private static int deed(Hall x, int kind, int gave, int got, int l) {
        int b = x.burnt();
        x.paper(kind, b, gave, got, l, 10, 20);
        return b;
    }

    static void p42NoSuchNumbers() {
        Hall x = hall("");
        each("person", RANGE, p -> x.claim(p, 0), beyond(0, 7));
        each("LOT", RANGE, l -> x.claim(0, l), beyond(0, 1));
        is("none came", x.count(8), 0);
        is("the first of each", x.claim(0, 0), 0);
        is("the last of each", x.claim(7, 1), 1);
        is("the same again", x.claim(7, 1), 2);
    }

    static void p42LotNotThereToday() {
        Hall x = new Hall();
        x.persons(1);
        x.lot(10, 10);
        x.pass(9);
        is("a day ahead", x.claim(0, 0), STATE);
        x.split(0, 20, 2, 5, 5, 0, 0);
        x.pass(1);
        is("the day on which it came", x.claim(0, 0), 0);
        x.pass(9);
        is("a day ahead of its SPLIT", x.claim(0, 0), 1);
        is("what will come of it", x.claim(0, 1), STATE);
        x.pass(1);
        is("the day of its SPLIT", x.claim(0, 0), STATE);
        is("what came of it", x.claim(0, 1), 2);
        x.pass(1);
        is("a day behind its SPLIT", x.claim(0, 0), STATE);
        x.pass(5000);
        is("long behind it", x.claim(0, 0), STATE);
        is("RANGE ahead of STATE", x.claim(1, 0), RANGE);
        is("CLAIMS", x.count(8), 3);
    }

    static void p42OfOneDead() {
        Hall x = hall("");
        x.dead(3, 0);
        int late = x.person(9999);
        is("DEAD", x.claim(3, 0), 0);
        is("not living yet", x.claim(late, 0), 1);
    }

    static void p42ThirtyAreFull() {
        Hall x = hall("");
        x.lot(10, 5);
        for (int i = 0; i < 30; i++) is("CLAIM " + i, x.claim(1, 0), i);
        is("the 31st", x.claim(1, 0), FULL);
        is("STATE ahead of FULL", x.claim(1, 2), STATE);
        is("RANGE ahead of both", x.claim(8, 2), RANGE);
        is("CLAIMS", x.count(8), 30);
        is("not RULED", x.count(20), 30);
        is("the last", x.claimed(29, 0), 1);
        is("no further one", x.claimed(30, 0), NO_SUCH);
    }

    static void p43NoSuchLot() {
        Hall x = hall("");
        each("LOT", RANGE, x::sit, beyond(0, 1));
        is("no CLAIMS", x.sit(0), 0);
        is("nor of the last LOT", x.sit(1), 0);
        is("not ruled by that", x.ruled(0, 0), NONE);
    }

    static void p43NoticeDaysOld() {
        int[] notices = {0, 1, 30, 999};
        for (int notice : notices) {
            Hall x = hall("notice " + notice + ";");
            x.pass(5);
            x.claim(0, 0);
            if (notice > 0) {
                if (notice > 1) x.pass(notice - 1);
                is("a day too young for " + notice, x.sit(0), 0);
                is("not RULED", x.claimed(0, 3), 0);
                x.pass(1);
            }
            is("old enough for " + notice, x.sit(0), 1);
            is("it has it", x.ruled(0, 0), 0);
        }
    }

    static void p43ThirtyDaysIfNotTold() {
        Hall x = hall("");
        x.claim(0, 0);
        x.pass(29);
        is("29 days", x.sit(0), 0);
        x.pass(1);
        is("30 days", x.sit(0), 1);
    }

    static void p43NoticeByTheActOfToday() {
        Hall x = hall("notice 999;");
        x.claim(0, 0);
        is("too young", x.sit(0), 0);
        x.act(PROOFS + "notice 0;");
        is("old enough now", x.sit(0), 1);
    }

    static void p43OldAndYoungOnes() {
        Hall x = hall("notice 10;sure 12;");
        deed(x, 1, 0, 1, 0);
        deed(x, 0, 0, 2, 0);
        x.claim(1, 0);
        x.pass(1);
        x.claim(2, 0);
        x.pass(9);
        is("the first alone", x.sit(0), 1);
        is("it isn't enough for it", x.ruled(0, 0), NONE);
        is("NOT", x.claimed(0, 3), 3);
        is("the other isn't RULED", x.claimed(1, 3), 0);
        x.pass(1);
        is("then the other", x.sit(0), 1);
        is("it has it", x.ruled(0, 0), 1);
        is("the first stays NOT", x.claimed(0, 3), 3);
    }

    static void p43RuledIsState() {
        Hall x = hall("notice 0;sure 12;doubt 6;years 1;");
        deed(x, 1, 0, 1, 1);
        x.claim(0, 0);
        x.claim(1, 1);
        x.sit(0);
        x.sit(1);
        is("SURE", x.ruled(0, 2), 1);
        is("with DOUBT", x.ruled(1, 2), 2);
        x.claim(2, 0);
        x.claim(2, 1);
        is("SURE isn't heard again", x.sit(0), STATE);
        is("nor is one with DOUBT", x.sit(1), STATE);
        x.pass(365);
        is("nor one that is SURE by time", x.sit(1), STATE);
        is("the later ones are not RULED", x.count(20), 2);
    }

    static void p43AllNotIsNotRuled() {
        Hall x = hall("notice 0;");
        x.claim(1, 0);
        x.claim(2, 0);
        is("heard", x.sit(0), 2);
        is("both NOT", x.count(23), 2);
        is("not ruled", x.ruled(0, 0), NONE);
        is("none to hear", x.sit(0), 0);
    }

    static void p43ThirtyTogether() {
        Hall x = hall("notice 0;");
        for (int i = 0; i < 29; i++) x.claim(1, 1);
        x.claim(0, 1);
        is("the other LOT has none", x.sit(0), 0);
        is("all thirty", x.sit(1), 30);
        is("the last has it", x.ruled(1, 0), 29);
        is("all others are NOT", x.count(23), 29);
        is("one is SURE", x.count(21), 1);
    }

    static void p43FewestGaps() {
        Hall x = hall("notice 0;sure 6;gap 1;");
        deed(x, 0, 7, 1, 0);
        deed(x, 1, 0, 2, 0);
        x.claim(1, 0);
        x.claim(2, 0);
        x.sit(0);
        is("no GAP ahead of a greater WEAKEST", x.ruled(0, 0), 1);
        x.pass(6);
        x.paper(0, x.burnt(), 7, 3, 1, 10, 20);
        x.paper(1, x.burnt(), 0, 4, 1, 10, 20);
        x.claim(4, 1);
        x.claim(3, 1);
        x.sit(1);
        is("in the other order, of another LOT", x.ruled(1, 0), 2);
    }

    static void p43InAnyOrder() {
        int[][] orders = {{1, 2, 3}, {1, 3, 2}, {2, 1, 3}, {2, 3, 1}, {3, 1, 2}, {3, 2, 1}};
        for (int[] order : orders) {
            for (int l = 0; l < 2; l++) {
                Hall x = hall("notice 3;sure 6;doubt 1;gap 1;proof index 3;");
                deed(x, 1, 0, 1, l);
                deed(x, 0, 0, 2, l);
                deed(x, 2, 0, 3, l);
                x.pass(4);
                x.claim(4, 1 - l);
                for (int p : order) x.claim(p, l);
                x.pass(3);
                is("heard", x.sit(l), 3);
                is("the greatest WEAKEST", x.claimed(x.ruled(l, 0), 0), 2);
                is("SURE", x.ruled(l, 2), 1);
                is("the others are NOT", x.count(23), 2);
            }
        }
    }

    static void p43SureWithGapsInAnyOrder() {
        for (int first = 1; first < 3; first++) {
            Hall x = hall("notice 0;sure 12;doubt 6;gap 1;");
            deed(x, 1, 0, 1, 1);
            deed(x, 0, 7, 2, 1);
            x.claim(first, 1);
            x.claim(3 - first, 1);
            is("DOUBT without a GAP", x.worth(first - 1), 2);
            is("SURE with one", x.worth(2 - first), 1);
            x.sit(1);
            is("SURE has it", x.claimed(x.ruled(1, 0), 0), 2);
            is("SURE", x.ruled(1, 2), 1);
        }
    }

    static void p43ByWhatIsSoToday() {
        Hall x = hall("notice 0;sure 99;doubt 99;long 1;years 2;");
        x.pass(5);
        x.act(PROOFS + "notice 400;sure 99;doubt 99;long 2;years 1;");
        x.paper(4, NONE, NONE, 1, 1, 365, 800);
        x.claim(1, 1);
        x.pass(725);
        is("heard on day 730", x.sit(1), 1);
        is("by the years 1 and 2, with DOUBT", x.ruled(1, 2), 2);
        is("the day", x.ruled(1, 1), 730);
        x.pass(364);
        is("a day ahead of one year", x.ruled(1, 2), 2);
        x.pass(1);
        is("the years of THE ACT of its ruling", x.ruled(1, 2), 1);
    }

    static void p43GreatestWeakest() {
        Hall x = hall("notice 0;sure 6;");
        deed(x, 1, 0, 1, 0);
        deed(x, 0, 0, 2, 0);
        deed(x, 0, 0, 3, 0);
        x.claim(1, 0);
        x.claim(2, 0);
        x.claim(3, 0);
        x.sit(0);
        is("then the least number", x.ruled(0, 0), 1);
        is("the third is NOT", x.claimed(2, 3), 3);
    }

    static void p43SureAheadOfDoubt() {
        Hall x = hall("notice 0;sure 12;doubt 6;gap 1;");
        deed(x, 1, 0, 1, 0);
        deed(x, 0, 7, 2, 0);
        x.claim(1, 0);
        x.claim(2, 0);
        is("DOUBT without a GAP", x.worth(0), 2);
        is("SURE with one", x.worth(1), 1);
        x.sit(0);
        is("SURE has it", x.ruled(0, 0), 1);
        is("SURE", x.ruled(0, 2), 1);
        is("the other is NOT", x.claimed(0, 3), 3);
    }

    static void p43DoubtWithoutAChain() {
        Hall x = hall("notice 0;sure 99;doubt 6;gap 0;long 1;");
        deed(x, 1, 7, 2, 0);
        x.paper(4, NONE, NONE, 1, 0, 0, 364);
        x.paper(4, NONE, NONE, 2, 0, 0, 364);
        x.paper(4, NONE, NONE, 3, 0, 0, 364);
        x.claim(1, 0);
        x.claim(2, 0);
        x.claim(3, 0);
        for (int c = 0; c < 3; c++) is("by years, " + c, x.worth(c), 2);
        x.sit(0);
        is("one GAP is less than 99", x.ruled(0, 0), 1);
        Hall y = hall("notice 0;sure 99;doubt 6;gap 0;long 1;");
        y.paper(4, NONE, NONE, 1, 0, 0, 364);
        y.paper(4, NONE, NONE, 2, 0, 0, 364);
        y.claim(2, 0);
        y.claim(1, 0);
        y.sit(0);
        is("both without: the least number", y.ruled(0, 0), 0);
    }

    static void p43LotThatIsGone() {
        Hall x = hall("notice 5;sure 12;doubt 6;years 1;");
        deed(x, 1, 0, 1, 0);
        x.claim(1, 0);
        x.claim(0, 1);
        x.split(0, 25, 2, 5, 5, 0, 0);
        x.split(1, 25, 2, 5, 5, 0, 0);
        x.pass(25);
        is("no CLAIM more", x.claim(0, 0), STATE);
        is("SPLIT since, heard all the same", x.sit(0), 1);
        is("with DOUBT", x.ruled(0, 2), 2);
        is("SURE", x.sit(1), 1);
        is("the other", x.ruled(1, 2), 1);
        x.dead(1, 9);
        is("OPENED", x.open(0), 1);
        is("heard again", x.sit(0), 1);
    }

    /** One without a CHAIN comes behind one whose only LINK has a GAP and no POINTS. */
    static void p43DoubtWithoutAChainIsLast() {
        for (int first = 1; first < 3; first++) {
            Hall x = hall("notice 0;sure 99;doubt 99;gap 0;long 1;");
            deed(x, 1, NONE, 2, 0);
            x.paper(4, NONE, NONE, 1, 0, 0, 364);
            x.paper(4, NONE, NONE, 2, 0, 0, 364);
            x.claim(first, 0);
            x.claim(3 - first, 0);
            is("both with DOUBT", x.worth(0) + x.worth(1), 4);
            x.sit(0);
            is("a GAP and no POINTS ahead of none, " + first, x.claimed(x.ruled(0, 0), 0), 2);
        }
    }

    /** What was told late counts late: all on days far on. */
    static void p43OnDaysFarOn() {
        Hall x = hall("notice 0;years 1;");
        x.pass(5000);
        x.act(PROOFS + "notice 0;sure 12;doubt 6;years 1;fund 3;");
        x.claim(1, 0);
        is("nothing KNOWN", x.worth(0), 3);
        deed(x, 1, 0, 1, 0);
        is("KNOWN today", x.worth(0), 2);
        is("heard", x.sit(0), 1);
        is("with DOUBT", x.ruled(0, 2), 2);
        x.fund(9);
        x.place(4, 0, 6);
        is("settled by looking", x.settles(1), 1);
        is("for its cost", x.next(4), 1);
        is("not for less", x.next(3), 0);
        is("not opened", x.open(0), 0);
        x.pass(200);
        x.paper(1, 0, 0, 1, 0, 10, 20);
        is("SURE as it is", x.settles(0), 1);
        is("for nothing", x.next(0), 1);
        x.dead(1, 5);
        is("nothing is left to settle", x.settles(1), 0);
        is("for no sum", x.next(1200), 0);
        x.act(PROOFS + "notice 0;fund 7;");
        is("OPENED", x.open(0), 1);
        is("fund of today", x.claimed(0, 4), 7);
    }

    static void p44NoSuchClaim() {
        Hall x = hall("");
        is("none at all", x.worth(0), RANGE);
        x.claim(0, 0);
        x.claim(1, 0);
        each("CLAIM", RANGE, x::worth, beyond(0, 1));
        is("SURE", x.worth(0), 1);
        is("NOT", x.worth(1), 3);
    }

    private static int worthOf(String act, int kind, int gave) {
        Hall x = hall(act);
        deed(x, kind, gave, 1, 0);
        x.claim(1, 0);
        return x.worth(0);
    }

    static void p44SureOrMore() {
        is("WEAKEST is sure", worthOf("sure 6;doubt 0;", 1, 0), 1);
        is("one less", worthOf("sure 7;doubt 0;", 1, 0), 2);
        is("sure 0", worthOf("sure 0;doubt 99;", 1, 0), 1);
        is("sure below doubt", worthOf("sure 6;doubt 7;", 1, 0), 1);
        is("sure 999", worthOf("sure 999;doubt 999;", 1, 0), 3);
        is("if not told, 12 is DOUBT", worthOf("", 0, 0), 2);
    }

    static void p44DoubtOrMore() {
        is("WEAKEST is doubt", worthOf("doubt 6;", 1, 0), 2);
        is("one less", worthOf("doubt 7;", 1, 0), 3);
        is("if not told, 6 is NOT", worthOf("", 1, 0), 3);
    }

    static void p44GapsNotAboveGap() {
        is("one, gap 1", worthOf("sure 12;gap 1;", 0, 7), 1);
        is("one, gap 0", worthOf("sure 12;gap 0;", 0, 7), 3);
        is("none, gap 0", worthOf("sure 12;gap 0;", 0, 0), 1);
        is("DOUBT, gap 1", worthOf("sure 13;doubt 12;gap 1;", 0, 7), 2);
        is("DOUBT, gap 0", worthOf("sure 13;doubt 12;gap 0;", 0, 7), 3);
    }

    static void p44WithoutAChain() {
        Hall x = hall("sure 0;doubt 0;gap 20;");
        x.claim(1, 0);
        is("it isn't as with WEAKEST 0", x.worth(0), 3);
        Hall y = hall("sure 0;doubt 0;gap 1;");
        deed(y, 1, NONE, 1, 0);
        y.claim(1, 0);
        is("a CHAIN with WEAKEST 0 is", y.worth(0), 1);
    }

    static void p44WithoutLinks() {
        Hall x = hall("sure 999;gap 0;");
        x.claim(0, 0);
        is("999 is enough for 999", x.worth(0), 1);
    }

    static void p44LongYears() {
        for (int years : new int[] {1, 2, 3}) {
            Hall x = hall("long 2;");
            x.paper(4, NONE, NONE, 1, 0, 730 - 365 * (years - 1), 730);
            x.claim(1, 0);
            x.pass(1094);
            is(years + " of 2", x.worth(0), years >= 2 ? 2 : 3);
            x.pass(1);
            is("a year without", x.worth(0), 3);
        }
    }

    static void p44LastYearIsTodays() {
        Hall x = hall("long 1;");
        x.paper(4, NONE, NONE, 1, 0, 365, 729);
        x.claim(1, 0);
        x.pass(364);
        is("the year ahead", x.worth(0), 3);
        x.pass(1);
        is("its first day", x.worth(0), 2);
        x.pass(364);
        is("its last", x.worth(0), 2);
        x.pass(1);
        is("the year behind", x.worth(0), 3);
    }

    static void p44TwentyYearsIfNotTold() {
        Hall x = hall("");
        x.paper(4, NONE, NONE, 1, 0, 365, 9999);
        x.claim(1, 0);
        x.pass(5000);
        x.pass(2664);
        is("day 7664, twenty years", x.worth(0), 2);
        Hall y = hall("");
        y.paper(4, NONE, NONE, 1, 0, 365, 9999);
        y.claim(1, 0);
        y.pass(5000);
        y.pass(2299);
        is("day 7299, nineteen", y.worth(0), 3);
        y.pass(1);
        is("day 7300, twenty", y.worth(0), 2);
    }

    static void p44AsKnownToday() {
        Hall x = hall("sure 12;doubt 6;");
        x.claim(1, 0);
        is("nothing KNOWN", x.worth(0), 3);
        x.pass(1);
        deed(x, 1, 0, 1, 0);
        is("a copy", x.worth(0), 2);
        x.pass(1);
        x.act(PROOFS + "sure 6;");
        is("by THE ACT of today", x.worth(0), 1);
        is("it isn't RULED by that", x.claimed(0, 3), 0);
    }

    static void p45NoSuchNumbers() {
        Hall x = hall("");
        is("none at all", x.claimed(0, 0), NO_SUCH);
        x.pass(9);
        x.claim(5, 1);
        x.claim(6, 0);
        each("CLAIM", NO_SUCH, c -> x.claimed(c, 0), beyond(0, 1));
        each("what", NO_SUCH, what -> x.claimed(0, what), beyond(0, 4));
        int[] told = {5, 1, 9, 0, 0};
        for (int what = 0; what < 5; what++) is("claimed " + what, x.claimed(0, what), told[what]);
    }

    static void p45DayOfItsNotice() {
        Hall x = hall("");
        x.claim(1, 0);
        x.pass(5000);
        x.pass(4999);
        x.claim(1, 0);
        is("day 0", x.claimed(0, 2), 0);
        is("day 9999", x.claimed(1, 2), 9999);
    }

    static void p45SureByTime() {
        Hall x = hall("notice 0;doubt 6;years 1;");
        deed(x, 1, 0, 1, 0);
        x.claim(1, 0);
        x.claim(2, 0);
        x.sit(0);
        x.pass(364);
        is("a day ahead", x.claimed(0, 3), 2);
        is("NOT", x.claimed(1, 3), 3);
        x.pass(1);
        is("that day", x.claimed(0, 3), 1);
        is("NOT stays", x.claimed(1, 3), 3);
        is("the day of its notice stays", x.claimed(0, 2), 0);
    }

    static void p46NotRuled() {
        Hall x = hall("");
        for (int l : new int[] {0, 1, 2, -1, LEAST, MOST}) {
            for (int what = 0; what < 3; what++) is("LOT " + l + " what " + what, x.ruled(l, what), NONE);
        }
    }

    static void p46NoSuchWhat() {
        Hall x = hall("notice 0;");
        x.pass(7);
        x.claim(1, 0);
        x.claim(0, 0);
        x.sit(0);
        each("what", NONE, what -> x.ruled(0, what), beyond(0, 2));
        int[] told = {1, 7, 1};
        for (int what = 0; what < 3; what++) is("ruled " + what, x.ruled(0, what), told[what]);
        is("another LOT", x.ruled(1, 0), NONE);
    }

    static void p46SureByTime() {
        for (int years : new int[] {1, 2, 10}) {
            Hall x = hall("notice 0;doubt 6;" + (years == 10 ? "" : "years " + years + ";"));
            deed(x, 1, 0, 1, 0);
            x.pass(3);
            x.claim(1, 0);
            x.sit(0);
            x.act(PROOFS + "years 1;");
            x.pass(365 * years - 1);
            is("a day ahead of " + years, x.ruled(0, 2), 2);
            is("with DOUBT", x.count(22), 1);
            x.pass(1);
            is("when they are gone", x.ruled(0, 2), 1);
            is("SURE", x.count(21), 1);
            is("with DOUBT no more", x.count(22), 0);
            is("the CLAIM stays", x.ruled(0, 0), 0);
            is("the day too", x.ruled(0, 1), 3);
        }
    }

    static void p47NoSuchLot() {
        Hall x = hall("");
        each("LOT", RANGE, x::open, beyond(0, 1));
        is("not ruled", x.open(0), STATE);
        is("the last LOT", x.open(1), STATE);
    }

    static void p47NotRuledWithDoubt() {
        Hall x = hall("notice 0;");
        x.claim(0, 0);
        x.claim(1, 1);
        is("not heard", x.open(0), STATE);
        x.sit(0);
        x.sit(1);
        is("SURE", x.open(0), STATE);
        is("all NOT", x.open(1), STATE);
        is("SURE stays", x.ruled(0, 2), 1);
    }

    private static Hall doubted(String act) {
        Hall x = hall("notice 0;sure 12;doubt 6;gap 1;" + act);
        deed(x, 1, 0, 1, 0);
        x.claim(1, 0);
        x.sit(0);
        is("with DOUBT", x.ruled(0, 2), 2);
        return x;
    }

    static void p47WithinTheYears() {
        for (int gone : new int[] {0, 364, 365, 366}) {
            Hall x = doubted("years 1;");
            if (gone > 0) x.pass(gone);
            x.dead(1, 9);
            is("it would be NOT", x.worth(0), 3);
            is("behind " + gone + " days", x.open(0), gone < 365 ? 1 : STATE);
            is("not RULED behind " + gone, x.count(20), gone < 365 ? 1 : 0);
            is("SURE behind " + gone, x.count(21), gone < 365 ? 0 : 1);
        }
    }

    static void p47NothingOfThatIsSo() {
        Hall x = doubted("years 1;fund 5;");
        x.fund(9);
        is("DOUBT still", x.open(0), 0);
        x.claim(2, 0);
        is("another that is NOT", x.open(0), 0);
        deed(x, 1, 0, 2, 0);
        is("another with DOUBT", x.open(0), 0);
        x.claim(0, 1);
        is("one that is SURE on another LOT", x.open(0), 0);
        x.paper(1, 0, 0, 1, 0, 10, 20);
        is("it would be SURE itself", x.open(0), 0);
        is("it stays", x.ruled(0, 0), 0);
        is("so does the COIN", x.count(9), 9);
        is("and its pounds", x.claimed(0, 4), 0);
    }

    static void p47AnotherWouldBeSure() {
        Hall x = doubted("years 1;");
        x.claim(0, 0);
        is("not heard yet, but SURE", x.worth(1), 1);
        is("OPENED", x.open(0), 1);
        is("both not RULED", x.count(20), 2);
        Hall y = hall("notice 0;sure 12;doubt 6;years 1;");
        deed(y, 1, 0, 1, 0);
        deed(y, 1, 7, 2, 0);
        y.claim(1, 0);
        y.claim(2, 0);
        y.sit(0);
        is("one that was heard and is NOT", y.claimed(1, 3), 3);
        y.paper(1, 1, 7, 2, 0, 10, 20);
        is("would be SURE", y.worth(1), 1);
        is("OPENED too", y.open(0), 1);
        is("all as not RULED", y.count(20), 2);
    }

    static void p47AnotherOfTheSamePerson() {
        Hall x = doubted("years 1;fund 3;");
        x.fund(9);
        x.claim(1, 0);
        is("another CLAIM with DOUBT", x.open(0), 0);
        x.paper(1, 0, 0, 1, 0, 10, 20);
        is("both would be SURE", x.worth(0) + x.worth(1), 2);
        is("another CLAIM would be", x.open(0), 1);
        is("pounds of the one that had it", x.claimed(0, 4), 3);
        is("none of the other", x.claimed(1, 4), 0);
    }

    /** The claim that has it has it by years: whether it would be NOT goes by the year of today. */
    static void p47HeldByYears() {
        Hall x = hall("notice 0;sure 99;doubt 99;long 1;years 9;fund 4;");
        x.fund(9);
        x.paper(4, NONE, NONE, 1, 1, 730, 1100);
        x.claim(1, 1);
        x.pass(730);
        is("heard", x.sit(1), 1);
        is("with DOUBT", x.ruled(1, 2), 2);
        is("that year", x.open(1), 0);
        x.pass(365);
        is("the next year", x.open(1), 0);
        x.pass(364);
        is("its last day", x.open(1), 0);
        x.pass(1);
        is("the year behind", x.open(1), 1);
        is("pounds", x.claimed(0, 4), 4);
    }

    static void p47PoundsFromTheCoin() {
        int[][] rows = {{5, 4, 4, 0}, {5, 5, 5, 0}, {5, 6, 5, 1}, {0, 9, 0, 9}, {5, 0, 0, 0}, {9999, 99999, 9999, 90000}};
        for (int[] r : rows) {
            Hall x = doubted("years 1;fund " + r[0] + ";");
            if (r[1] > 0) x.fund(r[1]);
            x.dead(1, 9);
            is("OPENED", x.open(0), 1);
            is("fund " + r[0] + " of " + r[1], x.claimed(0, 4), r[2]);
            is("the COIN", x.count(9), r[3]);
        }
    }

    /** The numbers of CLAIMS, LOTS and persons are unlike each other here. */
    static void p47NumbersUnlike() {
        Hall x = hall("notice 0;sure 12;doubt 6;gap 1;years 1;fund 5;");
        x.lots(1);
        x.root(2, 0, 0);
        deed(x, 1, 0, 6, 2);
        deed(x, 1, 0, 7, 1);
        x.claim(0, 0);
        x.claim(5, 0);
        x.claim(4, 2);
        x.claim(7, 1);
        x.claim(6, 2);
        x.sit(0);
        x.pass(100);
        x.sit(1);
        x.pass(100);
        x.sit(2);
        int[] has = {0, 3, 4};
        for (int l = 0; l < 3; l++) {
            is("CLAIM that has LOT " + l, x.ruled(l, 0), has[l]);
            is("day of LOT " + l, x.ruled(l, 1), 100 * l);
            is("SURE or with DOUBT, LOT " + l, x.ruled(l, 2), l == 0 ? 1 : 2);
        }
        x.fund(8);
        is("nothing of that is so, for all that LOT 0 has", x.open(2), 0);
        x.place(1, 0, 6);
        x.place(2, 1, 5);
        is("settled by the CLAIMS that have them", x.settles(3), 1);
        x.pass(265);
        is("LOT 1 is SURE by time", x.ruled(1, 2), 1);
        is("LOT 2 isn't", x.ruled(2, 2), 2);
        x.dead(6, 9);
        is("OPENED", x.open(2), 1);
        int[] states = {1, 3, 0, 1, 0};
        int[] pounds = {0, 0, 0, 0, 5};
        for (int c = 0; c < 5; c++) {
            is("state of CLAIM " + c, x.claimed(c, 3), states[c]);
            is("pounds of CLAIM " + c, x.claimed(c, 4), pounds[c]);
        }
        is("the COIN", x.count(9), 3);
    }

    static void p47FundOfToday() {
        Hall x = doubted("years 1;fund 5;");
        x.fund(50);
        x.pass(1);
        x.act(PROOFS + "fund 7;");
        is("NOT by doubt 8", x.open(0), 1);
        is("7", x.claimed(0, 4), 7);
        Hall y = doubted("years 1;fund 5;");
        y.fund(50);
        y.pass(1);
        y.act("");
        is("OPENED", y.open(0), 1);
        is("0 if not told", y.claimed(0, 4), 0);
    }

    static void p47AllItsClaimsAreAsNotRuled() {
        Hall x = hall("notice 5;sure 12;doubt 6;years 1;");
        deed(x, 1, 0, 1, 0);
        x.claim(1, 0);
        x.claim(2, 0);
        x.claim(3, 1);
        x.pass(5);
        x.sit(0);
        x.sit(1);
        x.dead(1, 9);
        is("OPENED", x.open(0), 1);
        is("its two", x.count(20), 2);
        is("that of another LOT stays", x.claimed(2, 3), 3);
        is("not ruled", x.ruled(0, 0), NONE);
        is("not OPENED again", x.open(0), STATE);
        is("no PLACES are to be settled", x.settles(0), 0);
        is("their notice stays", x.claimed(0, 2), 0);
        is("heard at once", x.sit(0), 2);
        is("all NOT", x.count(23), 3);
    }

    static void p47ThirtyClaims() {
        Hall x = hall("notice 0;sure 12;doubt 6;years 1;");
        deed(x, 1, 0, 1, 0);
        for (int c = 0; c < 30; c++) x.claim(c == 29 ? 1 : 2, 0);
        x.sit(0);
        is("the last has it", x.ruled(0, 0), 29);
        is("29 are NOT", x.count(23), 29);
        is("nothing of that is so", x.open(0), 0);
        deed(x, 0, 0, 2, 0);
        is("others would be SURE", x.open(0), 1);
        is("all as not RULED", x.count(20), 30);
        is("heard together again", x.sit(0), 30);
        is("the first has it", x.ruled(0, 0), 0);
    }

    static void p47OpenedAgain() {
        Hall x = doubted("years 1;fund 5;");
        x.fund(8);
        for (int round = 0; round < 2; round++) {
            x.pass(300);
            x.act("fund 5;");
            is("OPENED " + round, x.open(0), 1);
            x.act(PROOFS + "notice 0;sure 12;doubt 6;gap 1;years 1;");
            is("heard again", x.sit(0), 1);
            is("with DOUBT from today on", x.ruled(0, 1), 300 * (round + 1));
        }
        is("5 and what was left", x.claimed(0, 4), 8);
        is("the COIN is empty", x.count(9), 0);
        x.pass(364);
        is("the years are those of the later ruling", x.ruled(0, 2), 2);
        x.pass(1);
        is("SURE by time", x.ruled(0, 2), 1);
    }

    static void p48Pounds() {
        Hall x = new Hall();
        each("pounds", RANGE, x::fund, beyond(1, 99999));
        is("no COIN", x.count(9), 0);
        is("the least", x.fund(1), 1);
        is("the greatest", x.fund(99999), 100000);
    }

    static void p48MostCoin() {
        Hall x = new Hall();
        for (int i = 1; i <= 100; i++) is("fund " + i, x.fund(99999), 99999 * i);
        is("one above the most", x.fund(100), RANGE);
        is("the COIN stays", x.count(9), 9999900);
        is("one less than the most", x.fund(98), 9999998);
        is("two more", x.fund(2), RANGE);
        is("the most", x.fund(1), 9999999);
        is("one more", x.fund(1), RANGE);
        is("much more", x.fund(99999), RANGE);
        is("the COIN", x.count(9), 9999999);
    }
}
