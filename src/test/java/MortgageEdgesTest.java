/** Boundary cases of promises 38 to 41: MORTGAGES, PAID, which STAND, and their RANK. */
public final class MortgageEdgesTest extends Edges {
    public static void main(String[] args) {
        run(MortgageEdgesTest.class, 38, 41);
    }

    private static Hall hall() {
        Hall x = new Hall();
        x.persons(2);
        x.lots(2);
        return x;
    }

    static void p38NoSuchNumbers() {
        Hall x = hall();
        each("LOT", RANGE, l -> x.mortgage(l, 0, 1, 0, 0), beyond(0, 1));
        each("person", RANGE, p -> x.mortgage(0, p, 1, 0, 0), beyond(0, 1));
        each("pounds", RANGE, n -> x.mortgage(0, 0, n, 0, 0), beyond(1, 99999));
        each("day", RANGE, n -> x.mortgage(0, 0, 1, n, 9999), beyond(0, 9999));
        each("till", RANGE, n -> x.mortgage(0, 0, 1, 0, n), beyond(0, 9999));
        is("none came", x.count(7), 0);
        is("the least", x.mortgage(0, 0, 1, 0, 0), 0);
        is("the greatest", x.mortgage(1, 1, 99999, 9999, 9999), 1);
    }

    static void p38TillNotAheadOfTheDay() {
        Hall x = hall();
        is("a day ahead", x.mortgage(0, 0, 1, 50, 49), RANGE);
        is("9999 till 0", x.mortgage(0, 0, 1, 9999, 0), RANGE);
        is("none came", x.count(7), 0);
        is("the same day", x.mortgage(0, 0, 1, 50, 50), 0);
        is("a day behind", x.mortgage(0, 0, 1, 50, 51), 1);
        is("as long as can be", x.mortgage(0, 0, 1, 0, 9999), 2);
    }

    static void p38FortyAreFull() {
        Hall x = hall();
        for (int i = 0; i < 40; i++) is("MORTGAGE " + i, x.mortgage(0, 0, 1, 5, 5), i);
        is("the 41st", x.mortgage(0, 0, 1, 5, 5), FULL);
        is("RANGE when full", x.mortgage(0, 0, 0, 5, 5), RANGE);
        is("RANGE when full: till", x.mortgage(0, 0, 1, 5, 4), RANGE);
        is("MORTGAGES", x.count(7), 40);
        is("the last", x.stands(39, 5, 0), 1);
        is("no further one", x.stands(40, 5, 0), RANGE);
        is("its RANK", x.rank(39, 5, 0), 39);
    }

    static void p38OfALotThatIsntThere() {
        Hall x = hall();
        x.split(0, 20, 2, 5, 5, 0, 0);
        x.dead(1, 3);
        x.pass(500);
        is("SPLIT ahead of it, to one DEAD", x.mortgage(0, 1, 1, 30, 40), 0);
        is("not there yet", x.mortgage(2, 1, 1, 10, 40), 1);
        is("the one STANDS, KNOWN ahead of its telling", x.stands(0, 30, 0), 1);
        is("so does the other", x.stands(1, 10, 0), 1);
    }

    static void p39NoSuchNumbers() {
        Hall x = hall();
        is("none at all", x.paid(0, 0), RANGE);
        x.mortgage(0, 0, 1, 0, 0);
        x.mortgage(0, 0, 1, 0, 0);
        each("MORTGAGE", RANGE, m -> x.paid(m, 0), beyond(0, 1));
        each("day", RANGE, day -> x.paid(0, day), beyond(0, 9999));
        is("it STANDS", x.stands(0, 0, 0), 1);
        is("day 0", x.paid(0, 0), 1);
        is("day 9999", x.paid(1, 9999), 1);
        is("PAID", x.stands(0, 0, 0), 0);
    }

    static void p39ToldOnce() {
        Hall x = hall();
        x.mortgage(0, 0, 1, 0, 100);
        is("told", x.paid(0, 50), 1);
        is("again", x.paid(0, 50), STATE);
        is("of an earlier day", x.paid(0, 10), STATE);
        is("RANGE ahead of STATE", x.paid(0, 10000), RANGE);
        is("the first counts", x.stands(0, 49, 0), 1);
        is("from its day on", x.stands(0, 50, 0), 0);
    }

    static void p39AheadOfItsMaking() {
        Hall x = hall();
        x.mortgage(0, 0, 1, 50, 100);
        is("a day ahead of it", x.paid(0, 49), 1);
        is("it never STANDS", x.stands(0, 50, 0), 0);
    }

    static void p39KnownFromTheClocksDay() {
        Hall x = hall();
        x.mortgage(0, 0, 1, 0, 100);
        x.pass(20);
        x.paid(0, 10);
        is("not KNOWN a day ahead", x.stands(0, 10, 19), 1);
        is("KNOWN that day", x.stands(0, 10, 20), 0);
        is("KNOWN on the last", x.stands(0, 10, 9999), 0);
        is("not PAID a day ahead", x.stands(0, 9, 20), 1);
    }

    static void p40NoSuchNumbers() {
        Hall x = hall();
        is("none at all", x.stands(0, 0, 0), RANGE);
        x.mortgage(0, 0, 1, 0, 9999);
        each("MORTGAGE", RANGE, m -> x.stands(m, 0, 0), beyond(0, 0));
        each("day", RANGE, day -> x.stands(0, day, 0), beyond(0, 9999));
        each("KNOWN", RANGE, known -> x.stands(0, 0, known), beyond(0, 9999));
        is("the least", x.stands(0, 0, 0), 1);
        is("the greatest", x.stands(0, 9999, 9999), 1);
    }

    static void p40MadeByThen() {
        Hall x = hall();
        x.mortgage(0, 0, 1, 50, 100);
        is("a day ahead", x.stands(0, 49, 0), 0);
        is("that day", x.stands(0, 50, 0), 1);
        is("it is KNOWN always", x.stands(0, 50, 9999), 1);
    }

    static void p40YearsGoneByMore() {
        int[] years = {1, 10, 20, 99};
        for (int n : years) {
            Hall x = hall();
            x.act("years " + n + ";");
            x.mortgage(0, 0, 1, 0, 100);
            int last = 100 + 365 * n;
            is("not by more than " + n, x.stands(0, Math.min(last, 9999), 0), 1);
            if (last < 9999) is("by a day more than " + n, x.stands(0, last + 1, 0), 0);
        }
        Hall x = hall();
        x.mortgage(0, 0, 1, 0, 0);
        is("ten if not told", x.stands(0, 3650, 0), 1);
        is("a day more", x.stands(0, 3651, 0), 0);
        is("the last day", x.stands(0, 9999, 0), 0);
    }

    static void p40ByTheActOfTheDayKnown() {
        Hall x = hall();
        x.mortgage(0, 0, 1, 0, 0);
        x.pass(10);
        x.act("years 1;");
        is("of a day ahead", x.stands(0, 366, 9), 1);
        is("of that day", x.stands(0, 366, 10), 0);
        is("within the year", x.stands(0, 365, 10), 1);
        is("the other day doesn't matter", x.stands(0, 0, 10), 1);
    }

    static void p40PaidByThen() {
        Hall x = hall();
        x.mortgage(0, 0, 1, 0, 100);
        x.mortgage(0, 0, 1, 0, 100);
        x.paid(0, 0);
        x.paid(1, 9999);
        is("PAID on day 0", x.stands(0, 0, 0), 0);
        is("PAID on day 9999, a day ahead", x.stands(1, 3750, 0), 1);
    }

    static void p41NoSuchNumbers() {
        Hall x = hall();
        is("none at all", x.rank(0, 0, 0), RANGE);
        x.mortgage(0, 0, 1, 0, 9999);
        each("MORTGAGE", RANGE, m -> x.rank(m, 0, 0), beyond(0, 0));
        each("day", RANGE, day -> x.rank(0, day, 0), beyond(0, 9999));
        each("KNOWN", RANGE, known -> x.rank(0, 0, known), beyond(0, 9999));
        is("the least", x.rank(0, 0, 0), 0);
        is("the greatest", x.rank(0, 9999, 9999), 0);
    }

    static void p41NoneThatDoesntStand() {
        Hall x = hall();
        x.mortgage(0, 0, 1, 50, 100);
        is("not made yet", x.rank(0, 49, 0), NONE);
        is("made", x.rank(0, 50, 0), 0);
        is("gone by", x.rank(0, 3751, 0), NONE);
        is("not yet", x.rank(0, 3750, 0), 0);
        x.paid(0, 60);
        is("PAID", x.rank(0, 60, 0), NONE);
        is("not yet", x.rank(0, 59, 0), 0);
    }

    static void p41ByDayThenByNumber() {
        Hall x = hall();
        x.mortgage(0, 0, 1, 51, 100);
        x.mortgage(0, 0, 1, 50, 100);
        x.mortgage(0, 0, 1, 50, 100);
        x.mortgage(0, 0, 1, 49, 100);
        int[] ranks = {3, 1, 2, 0};
        for (int m = 0; m < 4; m++) is("MORTGAGE " + m, x.rank(m, 60, 0), ranks[m]);
        is("one that isn't made yet doesn't count", x.rank(2, 50, 0), 2);
    }

    static void p41ThoseThatStand() {
        Hall x = hall();
        x.act("years 1;");
        x.mortgage(0, 0, 1, 0, 0);
        x.mortgage(0, 0, 1, 0, 400);
        x.mortgage(0, 0, 1, 10, 500);
        is("both", x.rank(2, 365, 0), 2);
        is("one is gone by", x.rank(2, 366, 0), 1);
        x.pass(5);
        x.paid(1, 370);
        is("PAID a day behind", x.rank(2, 369, 5), 1);
        is("PAID that day", x.rank(2, 370, 5), 0);
        is("not KNOWN", x.rank(2, 370, 4), 1);
    }

    static void p41OnLotsOfTheLine() {
        Hall x = hall();
        x.split(0, 20, 2, 5, 5, 0, 0);
        x.mortgage(0, 0, 1, 1, 100);
        x.mortgage(1, 0, 1, 1, 100);
        x.mortgage(2, 0, 1, 2, 100);
        x.mortgage(3, 0, 1, 3, 100);
        x.mortgage(0, 0, 1, 4, 100);
        int[] ranks = {0, 0, 1, 1, 1};
        for (int m = 0; m < 5; m++) is("MORTGAGE " + m, x.rank(m, 50, 0), ranks[m]);
    }
}
