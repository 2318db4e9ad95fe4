/** Promises 38 to 41: MORTGAGES, PAID, which STAND, their RANK. */
public final class MortgagesTest {
    public static void main(String[] args) {
        mortgages();
        paid();
        stands();
        rank();
        Due.end();
    }

    private static BurntHall hall() {
        BurntHall x = new BurntHall();
        x.person(0);
        x.person(0);
        x.lot(10, 0);
        x.lot(10, 0);
        return x;
    }

    private static void mortgages() {
        BurntHall x = hall();
        int[][] bad = {{2, 0, 1, 0, 0}, {-1, 0, 1, 0, 0}, {0, 2, 1, 0, 0}, {0, -1, 1, 0, 0}, {0, 0, 0, 0, 0},
            {0, 0, 100000, 0, 0}, {0, 0, 1, -1, 0}, {0, 0, 1, 10000, 10000}, {0, 0, 1, 5, 4}, {0, 0, 1, 5, 10000}};
        for (int[] b : bad) Due.is("RANGE", x.mortgage(b[0], b[1], b[2], b[3], b[4]), Due.RANGE);
        for (int i = 0; i < 40; i++) Due.is("mortgage " + i, x.mortgage(i % 2, 1, i % 2 == 0 ? 1 : 99999, 9999, 9999), i);
        Due.is("the 41st", x.mortgage(0, 0, 1, 0, 0), Due.FULL);
        Due.is("RANGE ahead of FULL", x.mortgage(0, 0, 0, 0, 0), Due.RANGE);
        Due.is("count", x.count(7), 40);
        Due.is("the last day", x.stands(39, 9999, 0), 1);
        Due.is("ahead of it", x.stands(39, 9998, 0), 0);
        Due.is("nineteen ahead of it", x.rank(39, 9999, 0), 19);
    }

    private static void paid() {
        BurntHall x = hall();
        x.mortgage(0, 0, 5, 10, 20);
        Due.is("no mortgage", x.paid(1, 0), Due.RANGE);
        Due.is("no mortgage", x.paid(-1, 0), Due.RANGE);
        Due.is("no day", x.paid(0, 10000), Due.RANGE);
        Due.is("no day", x.paid(0, -1), Due.RANGE);
        x.pass(7);
        Due.is("told", x.paid(0, 15), 1);
        Due.is("told so", x.paid(0, 16), Due.STATE);
        Due.is("RANGE ahead of STATE", x.paid(0, -1), Due.RANGE);
        Due.is("not PAID by then", x.stands(0, 14, 7), 1);
        Due.is("PAID on the day", x.stands(0, 15, 7), 0);
        Due.is("not KNOWN", x.stands(0, 15, 6), 1);
    }

    private static void stands() {
        BurntHall x = hall();
        x.mortgage(0, 0, 5, 10, 20);
        Due.is("no mortgage", x.stands(1, 0, 0), Due.RANGE);
        Due.is("no mortgage", x.stands(-1, 0, 0), Due.RANGE);
        Due.is("no day", x.stands(0, -1, 0), Due.RANGE);
        Due.is("no day", x.stands(0, 10000, 0), Due.RANGE);
        Due.is("no known", x.stands(0, 0, -1), Due.RANGE);
        Due.is("no known", x.stands(0, 0, 10000), Due.RANGE);
        Due.is("not made", x.stands(0, 9, 0), 0);
        Due.is("made", x.stands(0, 10, 0), 1);
        Due.is("ten years", x.stands(0, 20 + 3650, 0), 1);
        Due.is("and a day", x.stands(0, 21 + 3650, 0), 0);
        x.pass(5);
        ActTest.act(x, "years 2;");
        Due.is("by the ACT of the day on which it is KNOWN", x.stands(0, 20 + 730, 5), 1);
        Due.is("and a day", x.stands(0, 21 + 730, 5), 0);
        Due.is("ahead of the ACT", x.stands(0, 21 + 730, 4), 1);
    }

    private static void rank() {
        BurntHall x = hall();
        x.split(0, 100, 2, 5, 5, 0, 0);
        x.mortgage(2, 0, 5, 300, 400);
        x.mortgage(0, 0, 5, 50, 60);
        x.mortgage(3, 0, 5, 200, 400);
        x.mortgage(1, 0, 5, 20, 400);
        x.mortgage(2, 0, 5, 300, 400);
        x.mortgage(2, 0, 5, 250, 260);
        Due.is("its LINE alone", x.rank(0, 350, 0), 2);
        Due.is("then by number", x.rank(4, 350, 0), 3);
        Due.is("ahead by day", x.rank(5, 350, 0), 1);
        Due.is("not what came of it", x.rank(1, 350, 0), 0);
        Due.is("of the other part", x.rank(2, 350, 0), 1);
        Due.is("does not stand yet", x.rank(0, 299, 0), Due.NONE);
        x.pass(3);
        x.paid(1, 340);
        Due.is("one was PAID", x.rank(4, 350, 3), 2);
        Due.is("not by then", x.rank(4, 339, 3), 3);
        Due.is("not KNOWN", x.rank(4, 350, 2), 3);
        Due.is("itself PAID", x.rank(1, 350, 3), Due.NONE);
        Due.is("till gone", x.rank(5, 260 + 3651, 3), Due.NONE);
        Due.is("those gone don't count", x.rank(4, 260 + 3651, 3), 1);
        Due.is("no mortgage", x.rank(6, 0, 0), Due.RANGE);
        Due.is("no mortgage", x.rank(-1, 0, 0), Due.RANGE);
        Due.is("no day", x.rank(0, 10000, 0), Due.RANGE);
        Due.is("no known", x.rank(0, 0, 10000), Due.RANGE);
    }
}
