/** Boundary cases of promises 13 to 17: LOTS, SPLIT and JOINED, what is told about them, their LINE. */
public final class LotEdgesTest extends Edges {
    public static void main(String[] args) {
        run(LotEdgesTest.class, 13, 17);
    }

    static void p13FeetAndDay() {
        Hall x = new Hall();
        each("feet", RANGE, feet -> x.lot(feet, 0), beyond(1, 999999));
        each("day", RANGE, day -> x.lot(1, day), beyond(0, 9999));
        is("none came", x.count(3), 0);
        is("the least", x.lot(1, 0), 0);
        is("the greatest", x.lot(999999, 9999), 1);
        is("feet 1", x.about(0, 0), 1);
        is("feet 999999", x.about(1, 0), 999999);
        is("from 0", x.about(0, 1), 0);
        is("from 9999", x.about(1, 1), 9999);
    }

    static void p13SixtyAreFull() {
        Hall x = new Hall();
        for (int i = 0; i < 60; i++) is("LOT " + i, x.lot(1, 0), i);
        is("the 61st", x.lot(1, 0), FULL);
        is("RANGE when full: feet", x.lot(0, 0), RANGE);
        is("RANGE when full: day", x.lot(1, 10000), RANGE);
        is("LOTS", x.count(3), 60);
        is("the last", x.about(59, 0), 1);
        is("no further one", x.about(60, 0), NO_SUCH);
    }

    static void p14NoSuchLotOrDay() {
        Hall x = new Hall();
        x.lots(2);
        each("LOT", RANGE, l -> x.split(l, 5, 2, 1, 1, 1, 1), beyond(0, 1));
        each("day", RANGE, day -> x.split(0, day, 2, 1, 1, 1, 1), beyond(0, 9999));
        is("none came", x.count(3), 2);
        is("not SPLIT", x.about(0, 2), NONE);
        is("the first on day 0", x.split(0, 0, 2, 1, 1, 1, 1), 2);
        is("the last on day 9999", x.split(1, 9999, 2, 1, 1, 1, 1), 4);
        is("day 0", x.about(0, 2), 0);
        is("day 9999", x.about(1, 2), 9999);
        is("from 9999", x.about(5, 1), 9999);
    }

    static void p14InTwoToFour() {
        Hall x = new Hall();
        x.lots(3);
        each("in", RANGE, n -> x.split(0, 5, n, 1, 1, 1, 1), 0, 1, 5, -1, LEAST, MOST);
        is("none came", x.count(3), 3);
        is("in 2", x.split(0, 5, 2, 1, 1, 1, 1), 3);
        is("in 3", x.split(1, 5, 3, 1, 1, 1, 1), 5);
        is("in 4", x.split(2, 5, 4, 1, 1, 1, 1), 8);
        is("LOTS", x.count(3), 12);
    }

    static void p14FeetOfEach() {
        Hall x = new Hall();
        x.lots(3);
        each("a", RANGE, f -> x.split(0, 5, 2, f, 1, 1, 1), beyond(1, 999999));
        each("b", RANGE, f -> x.split(0, 5, 2, 1, f, 1, 1), beyond(1, 999999));
        each("c", RANGE, f -> x.split(0, 5, 3, 1, 1, f, 1), beyond(1, 999999));
        each("d", RANGE, f -> x.split(0, 5, 4, 1, 1, 1, f), beyond(1, 999999));
        is("none came", x.count(3), 3);
        is("the least and the greatest", x.split(0, 5, 4, 999999, 1, 999999, 1), 3);
        int[] feet = {999999, 1, 999999, 1};
        for (int i = 0; i < 4; i++) is("feet of " + i, x.about(3 + i, 0), feet[i]);
    }

    static void p14BeyondNDontMatter() {
        Hall x = new Hall();
        x.lots(5);
        int[] odd = {0, -1, 1000000, LEAST, MOST};
        for (int i = 0; i < 4; i++) is("of two " + odd[i], x.split(i, 5, 2, 1, 1, odd[i], odd[i + 1]), 5 + 2 * i);
        is("of three", x.split(4, 5, 3, 1, 1, 1, LEAST), 13);
        is("three came", x.count(3), 16);
    }

    static void p14NotThereYet() {
        Hall x = new Hall();
        x.lot(9, 100);
        is("a day ahead", x.split(0, 99, 2, 1, 1, 0, 0), STATE);
        is("day 0", x.split(0, 0, 2, 1, 1, 0, 0), STATE);
        is("not SPLIT", x.about(0, 2), NONE);
        is("none came", x.count(3), 1);
        is("the day on which it came", x.split(0, 100, 2, 1, 1, 0, 0), 1);
    }

    static void p14NotThereAnyMore() {
        Hall x = new Hall();
        x.lots(3);
        x.split(0, 100, 2, 5, 5, 0, 0);
        x.join(2, 1, 2, 0, 0, 100, 20);
        for (int l : new int[] {0, 1, 2}) {
            is("that day, " + l, x.split(l, 100, 2, 1, 1, 0, 0), STATE);
            is("a day behind it, " + l, x.split(l, 101, 2, 1, 1, 0, 0), STATE);
            is("was so on a later one, " + l, x.split(l, 99, 2, 1, 1, 0, 0), STATE);
            is("the day stays, " + l, x.about(l, 2), 100);
        }
        is("LACK stays", x.about(0, 3), 0);
    }

    static void p14NewOnesAreThereThatDay() {
        Hall x = new Hall();
        x.lot(9, 0);
        x.split(0, 100, 2, 5, 4, 0, 0);
        is("a day ahead", x.split(1, 99, 2, 1, 1, 0, 0), STATE);
        is("that day", x.split(1, 100, 2, 1, 1, 0, 0), 3);
        is("it is gone that day", x.about(1, 2), 100);
    }

    static void p14Full() {
        for (int n = 2; n <= 4; n++) {
            Hall x = new Hall();
            x.lots(61 - n);
            is("one too few for " + n, x.split(0, 5, n, 1, 1, 1, 1), FULL);
            is("none came", x.count(3), 61 - n);
            is("not SPLIT", x.about(0, 2), NONE);
            is("no LACK", x.about(0, 3), 0);
            is("RANGE when full", x.split(0, 5, n, 1, 0, 1, 1), RANGE);
        }
        for (int n = 2; n <= 4; n++) {
            Hall x = new Hall();
            x.lots(60 - n);
            is("just enough for " + n, x.split(0, 5, n, 1, 1, 1, 1), 60 - n);
            is("all sixty", x.count(3), 60);
            is("none for two", x.split(1, 5, 2, 1, 1, 1, 1), FULL);
        }
    }

    static void p14StateAheadOfFull() {
        Hall x = new Hall();
        x.lot(9, 50);
        x.lots(59);
        is("not there", x.split(0, 49, 2, 1, 1, 0, 0), STATE);
        is("there", x.split(0, 50, 2, 1, 1, 0, 0), FULL);
        is("RANGE ahead of both", x.split(0, 49, 2, 1, 0, 0, 0), RANGE);
    }

    static void p14FeetAndDayOfEach() {
        Hall x = new Hall();
        x.lot(100, 3);
        x.split(0, 7, 4, 40, 30, 20, 10);
        for (int i = 0; i < 4; i++) {
            is("feet of " + i, x.about(1 + i, 0), 40 - 10 * i);
            is("day of " + i, x.about(1 + i, 1), 7);
            is("not gone, " + i, x.about(1 + i, 2), NONE);
        }
        is("its own feet stay", x.about(0, 0), 100);
        is("its own day too", x.about(0, 1), 3);
    }

    static void p14NewOnesHaveNoBounds() {
        Hall x = new Hall();
        x.lots(3);
        for (int l = 0; l < 3; l++) x.bounds("n5;e5;s5;w5;", l, 1, 2);
        x.split(0, 9, 2, 5, 5, 0, 0);
        x.join(2, 1, 2, 0, 0, 9, 20);
        for (int l = 3; l < 6; l++) {
            for (int what = 5; what < 8; what++) is("LOT " + l + " what " + what, x.about(l, what), 0);
            is("ERROR of LOT " + l, x.error(l), STATE);
        }
        for (int l = 0; l < 3; l++) is("those that were keep theirs, " + l, x.area(l), 25);
    }

    static void p15NoSuchLotOrDay() {
        Hall x = new Hall();
        x.lots(6);
        each("a", RANGE, l -> x.join(2, l, 1, 2, 3, 5, 9), beyond(0, 5));
        each("b", RANGE, l -> x.join(2, 0, l, 2, 3, 5, 9), beyond(0, 5));
        each("c", RANGE, l -> x.join(3, 0, 1, l, 3, 5, 9), beyond(0, 5));
        each("d", RANGE, l -> x.join(4, 0, 1, 2, l, 5, 9), beyond(0, 5));
        each("day", RANGE, day -> x.join(2, 0, 1, 2, 3, day, 9), beyond(0, 9999));
        is("none came", x.count(3), 6);
        is("not JOINED", x.about(0, 2), NONE);
        is("the first and the last on day 0", x.join(2, 0, 5, 0, 0, 0, 9), 6);
        is("day 9999", x.join(2, 1, 2, 0, 0, 9999, 9), 7);
        is("from 9999", x.about(7, 1), 9999);
    }

    static void p15TwoToFour() {
        Hall x = new Hall();
        x.lots(9);
        each("of", RANGE, n -> x.join(n, 0, 1, 2, 3, 5, 9), 0, 1, 5, -1, LEAST, MOST);
        is("none came", x.count(3), 9);
        is("of 2", x.join(2, 0, 1, 2, 3, 5, 9), 9);
        is("of 3", x.join(3, 2, 3, 4, 5, 5, 9), 10);
        is("of 4", x.join(4, 5, 6, 7, 8, 5, 9), 11);
        is("the last of three is JOINED", x.about(4, 2), 5);
    }

    static void p15Feet() {
        Hall x = new Hall();
        x.lots(4);
        each("feet", RANGE, f -> x.join(2, 0, 1, 0, 0, 5, f), beyond(1, 999999));
        is("the least", x.join(2, 0, 1, 0, 0, 5, 1), 4);
        is("the greatest", x.join(2, 2, 3, 0, 0, 5, 999999), 5);
        is("feet 1", x.about(4, 0), 1);
        is("feet 999999", x.about(5, 0), 999999);
        is("from that day on", x.about(5, 1), 5);
        is("those that were keep theirs", x.about(0, 0), 10);
        is("LACK 19", x.about(4, 4), 19);
        is("LACK below 0", x.about(5, 4), 20 - 999999);
    }

    static void p15LikeOnes() {
        Hall x = new Hall();
        x.lots(4);
        is("a and b", x.join(2, 1, 1, 2, 3, 5, 9), RANGE);
        is("a and c", x.join(3, 1, 2, 1, 3, 5, 9), RANGE);
        is("b and c", x.join(3, 1, 2, 2, 3, 5, 9), RANGE);
        is("a and d", x.join(4, 1, 2, 3, 1, 5, 9), RANGE);
        is("b and d", x.join(4, 1, 2, 3, 2, 5, 9), RANGE);
        is("c and d", x.join(4, 1, 2, 3, 3, 5, 9), RANGE);
        is("none is JOINED", x.about(1, 2), NONE);
    }

    static void p15BeyondNDontMatter() {
        Hall x = new Hall();
        x.lots(9);
        is("least and most", x.join(2, 0, 1, LEAST, MOST, 5, 9), 9);
        is("like the first", x.join(2, 2, 3, 2, 3, 5, 9), 10);
        is("gone", x.join(2, 4, 5, 0, 1, 5, 9), 11);
        is("the fourth of three", x.join(3, 6, 7, 8, 99, 5, 9), 12);
    }

    static void p15StateOfOne() {
        Hall x = new Hall();
        x.lots(3);
        x.lot(9, 100);
        x.lots(2);
        x.split(4, 50, 2, 5, 5, 0, 0);
        is("one not there yet", x.join(2, 0, 3, 0, 0, 99, 9), STATE);
        is("as the fourth", x.join(4, 0, 1, 2, 3, 99, 9), STATE);
        is("one SPLIT that day", x.join(2, 0, 4, 0, 0, 50, 9), STATE);
        is("one SPLIT ahead of it", x.join(3, 0, 1, 4, 0, 51, 9), STATE);
        is("one SPLIT on a later day", x.join(2, 4, 0, 0, 0, 49, 9), STATE);
        is("the others are not JOINED", x.about(0, 2), NONE);
        is("none came", x.count(3), 8);
        is("the day on which it came", x.join(2, 0, 3, 0, 0, 100, 9), 8);
        is("one JOINED on a later day", x.join(2, 0, 1, 0, 0, 99, 9), STATE);
        is("one JOINED that day", x.join(2, 1, 0, 0, 0, 100, 9), STATE);
        is("the new one that day", x.join(2, 1, 8, 0, 0, 100, 9), 9);
    }

    static void p15Full() {
        Hall x = new Hall();
        x.lots(59);
        is("the 60th", x.join(4, 55, 56, 57, 58, 5, 40), 59);
        is("the 61st", x.join(2, 0, 1, 0, 0, 5, 20), FULL);
        is("not JOINED", x.about(0, 2), NONE);
        is("STATE ahead of FULL", x.join(2, 0, 58, 0, 0, 5, 20), STATE);
        is("RANGE ahead of both", x.join(2, 0, 58, 0, 0, 5, 0), RANGE);
        is("LOTS", x.count(3), 60);
    }

    static void p16NoSuchLot() {
        Hall x = new Hall();
        is("none at all", x.about(0, 0), NO_SUCH);
        x.lots(60);
        each("LOT", NO_SUCH, l -> x.about(l, 0), beyond(0, 59));
        is("the last", x.about(59, 0), 10);
    }

    static void p16NoSuchWhat() {
        Hall x = new Hall();
        x.lots(1);
        each("without BOUNDS", NO_SUCH, what -> x.about(0, what), -1, 8, 9, 10, 11, 21, 22, LEAST, MOST);
        x.bounds("e5;", 0, 0, 0);
        each("with one line", NO_SUCH, what -> x.about(0, what), -1, 8, 9, 11, 21, 22, LEAST, MOST);
        is("it", x.about(0, 10), 100005);
        x.bounds(times("w6;", 12), 0, 0, 0);
        each("with twelve", NO_SUCH, what -> x.about(0, what), -1, 8, 9, 22, 23, LEAST, MOST);
        is("the last", x.about(0, 21), 300006);
    }

    static void p16NothingToldYet() {
        Hall x = new Hall();
        x.lot(7, 8);
        int[] plain = {7, 8, NONE, 0, 0, 0, 0, 0};
        for (int what = 0; what < plain.length; what++) is("about " + what, x.about(0, what), plain[what]);
    }

    static void p16LackOfWhatWasAndCame() {
        Hall x = new Hall();
        x.lot(10, 0);
        x.lot(10, 0);
        x.lot(10, 0);
        x.split(0, 5, 2, 5, 4, 0, 0);
        x.split(1, 5, 2, 5, 5, 0, 0);
        x.split(2, 5, 2, 5, 6, 0, 0);
        int[] lack = {1, 0, -1};
        for (int l = 0; l < 3; l++) is("of SPLIT " + l, x.about(l, 3), lack[l]);
        is("of its own JOINING", x.about(0, 4), 0);
        for (int l = 3; l < 9; l++) is("came of no JOINING, " + l, x.about(l, 4), 0);
        x.join(2, 3, 4, 0, 0, 9, 8);
        x.join(2, 5, 6, 0, 0, 9, 10);
        x.join(2, 7, 8, 0, 0, 9, 12);
        for (int l = 0; l < 3; l++) is("of JOINING " + l, x.about(9 + l, 4), lack[l]);
        for (int l = 9; l < 12; l++) is("of its own SPLIT, " + l, x.about(l, 3), 0);
        for (int l = 3; l < 9; l++) is("of that of which it came, " + l, x.about(l, 3) + x.about(l, 4), 0);
        is("one that was JOINED has none", x.about(3, 3), 0);
    }

    static void p16GreatestLack() {
        Hall x = new Hall();
        x.lot(999999, 0);
        x.lot(1, 0);
        x.split(0, 0, 2, 1, 1, 0, 0);
        x.split(1, 0, 4, 999999, 999999, 999999, 999999);
        is("much too little", x.about(0, 3), 999997);
        is("much too much", x.about(1, 3), 1 - 4 * 999999);
        x.join(4, 4, 5, 6, 7, 0, 1);
        is("of a JOINING", x.about(8, 4), 4 * 999999 - 1);
    }

    static void p17NoSuchLot() {
        Hall x = new Hall();
        is("none at all", x.line(0), 0);
        x.lots(60);
        for (int l : beyond(0, 59)) is("LOT " + l, x.line(l), 0);
    }

    static void p17BitsOfTheHighLots() {
        Hall x = new Hall();
        x.lots(58);
        is("LOT 31", x.line(31), 1L << 31);
        is("LOT 32", x.line(32), 1L << 32);
        x.join(2, 31, 32, 0, 0, 5, 20);
        is("of a JOINING", x.line(58), 1L << 58 | 1L << 31 | 1L << 32);
        x.join(2, 58, 57, 0, 0, 5, 30);
        is("the last LOT", x.line(59), 1L << 59 | 1L << 58 | 1L << 57 | 1L << 32 | 1L << 31);
    }

    static void p17OfNoneIsItselfAlone() {
        Hall x = new Hall();
        x.lots(2);
        x.split(0, 5, 2, 5, 5, 0, 0);
        is("what came of it is not of its LINE", x.line(0), 1);
        is("of a SPLIT", x.line(2), 4 | 1);
        is("nor its like", x.line(3), 8 | 1);
        is("another", x.line(1), 2);
    }

    static void p17OfAllSixty() {
        Hall x = new Hall();
        x.oneLineOfSixty();
        is("LOTS", x.count(3), 60);
        is("the last one's", x.line(59), (1L << 60) - 1);
        is("the first one's", x.line(0), 1);
    }

    static void p17LongestLine() {
        Hall x = new Hall();
        x.lots(1);
        long bits = 1;
        for (int l = 0; l < 58; l += 2) {
            x.split(l, 5, 2, 5, 5, 0, 0);
            bits |= 1L << l + 2;
        }
        is("by 29 SPLITS", x.line(58), bits);
        is("LOTS", x.count(3), 59);
    }
}
