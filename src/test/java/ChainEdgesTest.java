/** Boundary cases of promises 33 to 37: ROOTS, CHAINS, rows judged, years HELD. */
public final class ChainEdgesTest extends Edges {
    public static void main(String[] args) {
        run(ChainEdgesTest.class, 33, 37);
    }

    /** Persons 0 .. 9, LOT 0 held by person 0 from day 100 on; copies weigh 6, indexes 3, taxes 2. */
    private static Hall hall(String more) {
        Hall x = new Hall();
        x.persons(10);
        x.lots(1);
        x.root(0, 0, 100);
        x.act("proof copy 6;proof index 3;proof tax 2;proof deed 99;" + more);
        return x;
    }

    private static int deed(Hall x, int kind, int gave, int got, int from, int to) {
        int b = x.burnt();
        x.paper(kind, b, gave, got, 0, from, to);
        return b;
    }

    private static void chain(Hall x, int p, int gaps, int weakest, int... links) {
        is("chain to " + p, x.chain(0, p, 0), gaps);
        if (gaps == NONE) return;
        is("GAPS", x.linked(0), gaps);
        is("WEAKEST", x.linked(1), weakest);
        is("LINKS", x.linked(2), links.length);
        for (int i = 0; i < links.length; i++) is("LINK " + i, x.linked(10 + i), links[i]);
        is("none behind them", x.linked(10 + links.length), NONE);
    }

    static void p33NoSuchNumbers() {
        Hall x = new Hall();
        x.persons(2);
        x.lots(2);
        each("LOT", RANGE, l -> x.root(l, 0, 0), beyond(0, 1));
        each("person", RANGE, p -> x.root(0, p, 0), beyond(0, 1));
        each("day", RANGE, day -> x.root(0, 0, day), beyond(0, 9999));
        is("no ROOT came", x.chain(0, 0, 0), NONE);
        is("the least", x.root(0, 0, 0), 1);
        is("the greatest", x.root(1, 1, 9999), 1);
    }

    static void p33ToldOnce() {
        Hall x = new Hall();
        x.persons(2);
        x.lots(1);
        is("told", x.root(0, 0, 5), 1);
        is("again", x.root(0, 0, 5), STATE);
        is("of another", x.root(0, 1, 5), STATE);
        is("RANGE ahead of STATE", x.root(0, 2, 5), RANGE);
        is("the first holds it", x.chain(0, 0, 0), 0);
        is("not the other", x.chain(0, 1, 0), NONE);
    }

    static void p33CameOfOthers() {
        Hall x = new Hall();
        x.persons(1);
        x.lots(3);
        x.split(0, 5, 2, 5, 5, 0, 0);
        x.join(2, 1, 2, 0, 0, 5, 20);
        is("of a SPLIT", x.root(3, 0, 5), STATE);
        is("the last of it", x.root(4, 0, 5), STATE);
        is("of a JOINING", x.root(5, 0, 5), STATE);
        is("RANGE ahead of STATE", x.root(5, 0, 10000), RANGE);
        is("one that was SPLIT", x.root(0, 0, 5), 1);
        is("one that was JOINED", x.root(2, 0, 5), 1);
    }

    static void p33KnownAlways() {
        Hall x = new Hall();
        x.persons(1);
        x.lots(1);
        x.pass(50);
        x.root(0, 0, 9999);
        is("on day 0", x.chain(0, 0, 0), 0);
        is("on day 9999", x.chain(0, 0, 9999), 0);
    }

    static void p33AheadOfTheLot() {
        Hall x = new Hall();
        x.persons(1);
        x.lot(10, 500);
        x.dead(0, 3);
        is("a day ahead of its first, of one DEAD", x.root(0, 0, 4), 1);
        is("it is held", x.chain(0, 0, 0), 0);
    }

    static void p34NoSuchNumbers() {
        Hall x = hall("");
        each("LOT", RANGE, l -> x.chain(l, 0, 0), beyond(0, 0));
        each("person", RANGE, p -> x.chain(0, p, 0), beyond(0, 9));
        each("day", RANGE, known -> x.chain(0, 0, known), beyond(0, 9999));
        is("none was told", x.linked(0), NONE);
        is("the first day", x.chain(0, 0, 0), 0);
        is("the last", x.chain(0, 0, 9999), 0);
    }

    static void p34NoneWithoutARoot() {
        Hall x = hall("");
        x.lots(1);
        x.burnt();
        x.paper(1, 0, 0, 1, 1, 200, 300);
        is("a LOT without one", x.chain(1, 1, 0), NONE);
        x.root(1, 0, 300);
        is("with one", x.chain(1, 1, 0), 0);
        is("nobody's", x.chain(1, 2, 0), NONE);
    }

    static void p34WithoutLinks() {
        Hall x = hall("");
        chain(x, 0, 0, 999);
        is("its ROOT", x.linked(3), 0);
        chain(x, 1, NONE, 0);
    }

    static void p34SpanAgainstTheRoot() {
        Hall x = hall("");
        deed(x, 1, 0, 1, 0, 99);
        int b = deed(x, 1, 0, 2, 0, 100);
        deed(x, 1, 9, 3, 0, 99);
        int d = deed(x, 1, 9, 4, 100, 100);
        chain(x, 1, NONE, 0);
        chain(x, 2, 0, 6, b);
        chain(x, 3, NONE, 0);
        chain(x, 4, 1, 6, d);
    }

    static void p34SpanAgainstTheOneBefore() {
        Hall x = hall("");
        int a = deed(x, 1, 0, 1, 200, 300);
        int b = deed(x, 1, 1, 2, 0, 200);
        int c = deed(x, 1, 1, 3, 0, 199);
        int d = deed(x, 1, 2, 4, 150, 199);
        int e = deed(x, 1, 2, 5, 150, 200);
        chain(x, 2, 0, 6, a, b);
        chain(x, 3, 1, 6, c);
        chain(x, 4, 1, 6, d);
        chain(x, 5, 0, 6, a, b, e);
    }

    static void p34BeginOfTheOneInBetween() {
        for (int last : new int[] {199, 200}) {
            Hall x = hall("");
            deed(x, 1, 0, 1, 150, 160);
            deed(x, 1, 1, 2, 200, 300);
            deed(x, 1, 2, 3, 100, last);
            if (last == 200) chain(x, 3, 0, 6, 0, 1, 2); else chain(x, 3, 1, 6, 2);
        }
        for (int last : new int[] {399, 400}) {
            Hall x = hall("");
            deed(x, 1, 0, 1, 400, 500);
            deed(x, 1, 1, 2, 200, 600);
            deed(x, 1, 2, 3, 100, last);
            if (last == 400) chain(x, 3, 0, 6, 0, 1, 2); else chain(x, 3, 1, 6, 2);
        }
    }

    static void p34LeastRowFromTheRootsDay() {
        Hall x = hall("");
        deed(x, 1, 0, 1, 0, 99);
        int b = deed(x, 1, 0, 1, 0, 100);
        deed(x, 1, 1, 2, 0, 99);
        int d = deed(x, 1, 1, 2, 0, 150);
        chain(x, 1, 0, 6, b);
        chain(x, 2, 0, 6, b, d);
    }

    /** Of more LINKS that could follow, whichever goes on longest counts, not the last of them. */
    static void p34OneThatGoesOnLonger() {
        int[][] orders = {{350, 299}, {299, 350}};
        for (int[] order : orders) {
            Hall x = hall("");
            int a = deed(x, 1, 0, 1, 300, 400);
            int b = deed(x, 1, 1, 2, 100, order[0]);
            int c = deed(x, 1, 1, 2, 100, order[1]);
            chain(x, 2, 0, 6, a, order[0] == 350 ? b : c);
            int d = deed(x, 1, 2, 3, 100, 500);
            chain(x, 3, 0, 6, a, order[0] == 350 ? b : c, d);
        }
    }

    static void p34NumbersOfBurntOnes() {
        Hall x = hall("");
        x.burnts(3);
        int a = deed(x, 1, 9, 2, 200, 300);
        chain(x, 2, 1, 6, a);
        int b = deed(x, 1, 0, 2, 200, 300);
        chain(x, 2, 0, 6, b);
        is("they are", a * 10 + b, 34);
    }

    /** Terms IV: the holder is ONE with who gave, whichever of their numbers is the lesser. */
    static void p34HoldersWhoAreOne() {
        Hall x = new Hall();
        x.persons(10);
        x.lots(1);
        x.act("proof copy 6;");
        x.root(0, 9, 100);
        int a = deed(x, 1, 3, 8, 200, 300);
        int b = deed(x, 1, 2, 7, 200, 300);
        chain(x, 8, 1, 6, a);
        chain(x, 7, 1, 6, b);
        chain(x, 3, NONE, 0);
        x.same(9, 3);
        chain(x, 3, 0, 999);
        chain(x, 8, 0, 6, a);
        is("the first row judged", x.judge("0", 0, 8, 0), 0);
        x.same(2, 8);
        chain(x, 2, 0, 6, a);
        chain(x, 7, 0, 6, a, b);
        is("both judged", x.judge("01", 0, 7, 0), 0);
        x.same(7, 1);
        chain(x, 1, 0, 6, a, b);
    }

    static void p34RootsOfItsLineAlone() {
        Hall x = new Hall();
        x.persons(3);
        x.lots(3);
        x.act("proof copy 6;");
        for (int l = 0; l < 3; l++) {
            x.root(l, 0, 100);
            x.paper(1, x.burnt(), 0, 1, l, 200, 300);
        }
        for (int l : new int[] {0, 2, 1, 0}) {
            is("chain of " + l, x.chain(l, 1, 0), 0);
            is("its ROOT", x.linked(3), l);
            is("its LINK", x.linked(10), l);
            is("without LINKS", x.chain(l, 0, 0), 0);
            is("its ROOT", x.linked(3), l);
            is("judged by that of another", x.judge("" + (char) (48 + (l + 1) % 3), l, 1, 0), NONE);
        }
    }

    static void p34LeastRowThatCanGoOn() {
        Hall x = hall("");
        int late = deed(x, 1, 0, 1, 301, 400);
        int early = deed(x, 1, 0, 1, 300, 400);
        int b = deed(x, 1, 1, 2, 100, 299);
        int c = deed(x, 1, 1, 2, 100, 300);
        int d = deed(x, 1, 1, 2, 100, 300);
        chain(x, 1, 0, 6, late);
        chain(x, 2, 0, 6, early, c);
        is("one that ends too early, one with a greater number", b + d, 2 + 4);
    }

    static void p34NumbersBackwards() {
        Hall x = hall("");
        for (int i = 7; i >= 0; i--) deed(x, 1, i, i + 1, 200, 300);
        chain(x, 8, 0, 6, 7, 6, 5, 4, 3, 2, 1, 0);
        chain(x, 2, 0, 6, 7, 6);
        is("judge", x.judge("76", 0, 2, 0), 0);
    }

    static void p34GreatestWeakestOfSeven() {
        for (int turn = 0; turn < 7; turn++) {
            for (int last = 0; last < 7; last++) {
                int links = 2 + (turn + last) % 6;
                Hall x = new Hall();
                x.persons(3);
                x.lots(1);
                x.root(0, 0, 100);
                x.act("proof deed 1;proof copy 2;proof index 3;proof oath 4;proof tax 5;proof plate 6;proof abstract 7;");
                int strongest = 0;
                for (int i = 0; i < links; i++) {
                    deed(x, kindOf(turn, i), 0, 1, 200, 300);
                    if (kindOf(turn, i) > kindOf(turn, strongest)) strongest = i;
                }
                int weakest = Math.min(last, kindOf(turn, strongest));
                int first = 0;
                while (kindOf(turn, first) < weakest) first++;
                int b = deed(x, last, 1, 2, 200, 300);
                chain(x, 2, 0, weakest + 1, first, b);
                chain(x, 1, 0, kindOf(turn, strongest) + 1, strongest);
            }
        }
    }

    /** Unlike kinds for the links of a turn, and so unlike WEIGHTS. */
    private static int kindOf(int turn, int link) {
        return (3 * link + turn) % 7;
    }

    static void p34RootOfTheLastDay() {
        Hall x = new Hall();
        x.persons(3);
        x.lots(1);
        x.act("proof copy 6;");
        x.root(0, 0, 9999);
        int a = deed(x, 1, 0, 1, 0, 9999);
        deed(x, 1, 0, 2, 0, 9998);
        chain(x, 1, 0, 6, a);
        chain(x, 2, NONE, 0);
    }

    static void p34GapsOfNobody() {
        Hall x = hall("");
        int a = deed(x, 1, NONE, 1, 200, 300);
        chain(x, 1, 1, 0, a);
        deed(x, 1, 0, NONE, 200, 300);
        chain(x, 2, NONE, 0);
        x.burnt();
        x.paper(1, 2, 0, 3, NONE, 200, 300);
        chain(x, 3, NONE, 0);
        is("one not of the LINE", x.lot(10, 0), 1);
        x.paper(1, 2, NONE, NONE, 1, 200, 300);
        chain(x, 3, NONE, 0);
    }

    static void p34HolderDeadByTheEndOfTheSpan() {
        for (int death : new int[] {150, 299, 300, 301, 9999}) {
            Hall x = hall("heirs;");
            x.child(0, 1);
            x.dead(0, death);
            int a = deed(x, 1, 1, 2, 200, 300);
            chain(x, 2, death <= 300 ? 0 : 1, 6, a);
        }
    }

    static void p34HeirsOnlyByTheAct() {
        Hall x = hall("");
        x.child(0, 1);
        x.dead(0, 150);
        int a = deed(x, 1, 1, 2, 200, 300);
        chain(x, 2, 1, 6, a);
        chain(x, 1, NONE, 0);
        Hall y = hall("heirs;");
        y.child(0, 1);
        deed(y, 1, 1, 2, 200, 300);
        chain(y, 2, 1, 6, 0);
        chain(y, 1, NONE, 0);
        y.dead(0, 9999);
        chain(y, 2, 1, 6, 0);
        chain(y, 1, 0, 999);
    }

    static void p34HeirAtTheEndAsKnownThen() {
        Hall x = hall("heirs;");
        x.pass(10);
        x.child(0, 1);
        x.pass(10);
        x.dead(0, 0);
        is("neither is KNOWN", x.chain(0, 1, 9), NONE);
        is("the death isn't", x.chain(0, 1, 19), NONE);
        is("both are", x.chain(0, 1, 20), 0);
        x.pass(10);
        x.same(2, 1);
        is("one with the CHILD, not KNOWN", x.chain(0, 2, 29), NONE);
        is("KNOWN", x.chain(0, 2, 30), 0);
    }

    static void p34HeirsByTheActOfThatDay() {
        Hall x = hall("");
        x.child(0, 1);
        x.dead(0, 0);
        deed(x, 1, 1, 2, 200, 300);
        x.pass(10);
        x.act("proof copy 6;heirs;");
        x.pass(10);
        x.act("proof copy 6;");
        int[] days = {9, 10, 19, 20};
        for (int known : days) {
            boolean heirs = known == 10 || known == 19;
            is("the heir, KNOWN on " + known, x.chain(0, 1, known), heirs ? 0 : NONE);
            is("what the heir gave, KNOWN on " + known, x.chain(0, 2, known), heirs ? 0 : 1);
            is("judged, KNOWN on " + known, x.judge("0", 0, 2, known), heirs ? 0 : 1);
        }
    }

    /** Terms I: DEAD and CHILDREN are those of any who is ONE. */
    static void p34HeirsOfAnyWhoIsOne() {
        Hall x = hall("heirs;");
        x.child(7, 8);
        x.dead(6, 150);
        int a = deed(x, 1, 9, 2, 200, 300);
        chain(x, 2, 1, 6, a);
        x.same(6, 7);
        x.same(9, 8);
        chain(x, 2, 1, 6, a);
        chain(x, 9, NONE, 0);
        x.same(7, 0);
        chain(x, 2, 0, 6, a);
        chain(x, 9, 0, 999);
        x.child(2, 3);
        chain(x, 3, NONE, 0);
        x.dead(2, 9999);
        chain(x, 3, 0, 6, a);
    }

    /** Terms I: whichever number of those who are ONE was told a CHILD. */
    static void p34ChildByAGreaterNumber() {
        Hall x = hall("heirs;");
        x.child(8, 9);
        x.dead(8, 150);
        x.same(8, 0);
        int a = deed(x, 1, 3, 2, 200, 300);
        chain(x, 2, 1, 6, a);
        chain(x, 3, NONE, 0);
        x.same(3, 9);
        chain(x, 2, 0, 6, a);
        chain(x, 3, 0, 999);
        chain(x, 9, 0, 999);
    }

    static void p34NoRootOfWhatCameOfOthers() {
        Hall x = hall("");
        x.split(0, 50, 2, 5, 5, 0, 0);
        x.lots(1);
        x.join(2, 1, 3, 0, 0, 60, 15);
        for (int l : new int[] {1, 4}) {
            int b = x.burnt();
            x.paper(1, b, 0, l, l, 0, 99);
            is("ends ahead of the only ROOT, LOT " + l, x.chain(l, l, 0), NONE);
            is("nor by a row, LOT " + l, x.judge("" + (char) (48 + b), l, l, 0), NONE);
        }
    }

    static void p34LotsAreKnownAlways() {
        Hall x = hall("");
        x.paper(1, x.burnt(), 0, 1, 0, 200, 300);
        x.pass(100);
        x.split(0, 400, 2, 5, 5, 0, 0);
        is("of a LOT that came later, KNOWN on day 0", x.chain(1, 1, 0), 0);
        is("its ROOT", x.linked(3), 0);
        x.lots(1);
        x.join(2, 1, 3, 0, 0, 500, 20);
        is("of a JOINING", x.chain(4, 1, 0), 0);
    }

    static void p34EightLinks() {
        Hall x = hall("");
        for (int i = 0; i < 9; i++) deed(x, 1, i, i + 1, 200, 300);
        chain(x, 8, 0, 6, 0, 1, 2, 3, 4, 5, 6, 7);
        chain(x, 9, 1, 6, 8);
    }

    static void p34EachOnce() {
        Hall x = hall("");
        int a = deed(x, 1, 0, 1, 200, 300);
        int b = deed(x, 1, 1, 0, 200, 300);
        int c = deed(x, 1, 1, 2, 200, 300);
        chain(x, 2, 0, 6, a, c);
        chain(x, 0, 0, 999);
        is("another", b, 1);
        Hall y = hall("");
        for (int i = 0; i < 11; i++) {
            if (i == 0) y.burnts(2);
            y.paper(0, 0, 0, 1, 0, 200, 300);
            y.paper(0, 1, 1, 0, 0, 200, 300);
        }
        chain(y, 0, 0, 1089, 0, 1);
    }

    static void p34WeakestAgainst999() {
        for (int copies : new int[] {0, 1, 2}) {
            Hall x = hall("proof tax 9;");
            int a = x.burnt();
            int b = x.burnt();
            for (int i = 0; i < 10; i++) {
                x.paper(0, a, 0, 1, 0, 200, 300);
                x.paper(0, b, 1, 0, 0, 200, 300);
            }
            for (int i = 0; i < copies; i++) {
                x.paper(4, a, 0, 1, 0, 200, 300);
                x.paper(4, b, 1, 0, 0, 200, 300);
            }
            if (copies < 2) chain(x, 0, 0, 999); else chain(x, 0, 0, 1008, a, b);
        }
        Hall x = hall("proof tax 10;");
        x.burnts(2);
        for (int i = 0; i < 11; i++) {
            x.paper(i == 0 ? 4 : 0, 0, 0, 1, 0, 200, 300);
            x.paper(i == 0 ? 4 : 0, 1, 1, 0, 0, 200, 300);
        }
        chain(x, 0, 0, 1000, 0, 1);
    }

    static void p34WeakestOfMany() {
        for (int weak = 0; weak < 8; weak++) {
            Hall x = hall("");
            for (int i = 0; i < 8; i++) deed(x, i == weak ? 2 : 1, i, i + 1, 200, 300);
            chain(x, 8, 0, 3, 0, 1, 2, 3, 4, 5, 6, 7);
            int better = deed(x, 0, weak, weak + 1, 200, 300);
            int[] row = {0, 1, 2, 3, 4, 5, 6, 7};
            row[weak] = better;
            chain(x, 8, 0, 6, row);
        }
    }

    static void p34BestOfMore() {
        Hall x = hall("");
        deed(x, 0, 9, 2, 200, 300);
        int b = deed(x, 2, 0, 2, 200, 300);
        chain(x, 2, 0, 3, b);
        int c = deed(x, 1, 0, 1, 200, 300);
        int d = deed(x, 1, 1, 2, 200, 300);
        chain(x, 2, 0, 6, c, d);
        x.paper(2, b, 0, 2, 0, 200, 300);
        chain(x, 2, 0, 6, b);
        deed(x, 1, 0, 2, 200, 300);
        chain(x, 2, 0, 6, b);
    }

    static void p34BestOfTwoFromDayZeroOn() {
        for (int strong : new int[] {0, 1}) {
            Hall x = new Hall();
            x.persons(2);
            x.lots(1);
            x.root(0, 0, 0);
            x.act("proof copy 6;proof index 3;");
            for (int b = 0; b < 2; b++) deed(x, b == strong ? 1 : 2, 0, 1, 0, 0);
            chain(x, 1, 0, 6, strong);
        }
    }

    static void p34NoneFromDayZeroOn() {
        Hall x = new Hall();
        x.persons(9);
        x.lots(1);
        x.root(0, 0, 0);
        x.act("proof copy 6;");
        for (int i = 0; i < 6; i += 2) deed(x, 1, i, i + 1, 0, 0);
        chain(x, 8, NONE, 0);
        chain(x, 1, 0, 6, 0);
        chain(x, 3, 1, 6, 1);
    }

    static void p34BestOfGaps() {
        Hall x = hall("");
        deed(x, 1, 9, 2, 200, 300);
        int b = deed(x, 0, 9, 2, 200, 300);
        deed(x, 0, 9, 2, 200, 300);
        chain(x, 2, 1, 99, b);
        deed(x, 2, 9, 2, 200, 300);
        chain(x, 2, 1, 99, b);
    }

    static void p34LeastRootOfMore() {
        Hall x = new Hall();
        x.persons(3);
        x.lots(3);
        x.act("proof copy 6;");
        x.root(2, 0, 0);
        x.join(2, 1, 2, 0, 0, 50, 20);
        is("one ROOT", x.chain(3, 0, 0), 0);
        is("LOT 2", x.linked(3), 2);
        x.root(1, 0, 0);
        x.root(0, 0, 0);
        is("two of its LINE", x.chain(3, 0, 0), 0);
        is("LOT 1", x.linked(3), 1);
    }

    static void p34OneLineOfSixty() {
        Hall x = new Hall();
        x.persons(3);
        x.act("proof copy 6;");
        x.oneLineOfSixty();
        for (int l = 0; l < 45; l++) x.root(l, l == 44 ? 1 : 0, 44 - l);
        is("from the first ROOT", x.chain(59, 0, 0), 0);
        is("LOT 0", x.linked(3), 0);
        is("from the last", x.chain(59, 1, 0), 0);
        is("LOT 44", x.linked(3), 44);
        int b = x.burnt();
        x.paper(1, b, 0, 2, 59, 64, 9999);
        is("by a LINK of the last LOT", x.chain(59, 2, 0), 0);
        is("the least ROOT", x.linked(3), 0);
        is("judge", x.judge("0", 59, 2, 0), 0);
        is("of the first LOT it is none", x.chain(0, 2, 0), NONE);
    }

    static void p34ThirtyLinksToChooseFrom() {
        Hall x = hall("");
        for (int b = 0; b < 30; b++) deed(x, b == 29 ? 0 : 1, 0, 1, 200, 300);
        chain(x, 1, 0, 99, 29);
        is("judge of the last", x.judge("M", 0, 1, 0), 0);
        for (int b = 0; b < 29; b++) x.paper(0, b, 0, 1, 0, 200, 300);
        chain(x, 1, 0, 105, 0);
        Hall y = hall("");
        for (int b = 0; b < 30; b++) deed(y, 1, 9 - b % 9, 8 - b % 9, 200, 300);
        chain(y, 8, 1, 6, 0);
        chain(y, 0, 0, 999);
    }

    static void p34LastOfAll() {
        Hall x = new Hall();
        x.persons(80);
        for (int i = 0; i < 60; i++) x.lot(10, 0);
        x.act("proof copy 6;");
        x.root(59, 78, 0);
        x.burnts(30);
        x.paper(1, 29, 78, 79, 59, 0, 9999);
        is("chain", x.chain(59, 79, 9999), 0);
        is("its ROOT", x.linked(3), 59);
        is("its LINK", x.linked(10), 29);
        is("judged", x.judge("M", 59, 79, 9999), 0);
    }

    static void p35NothingYet() {
        Hall x = hall("");
        each("linked", NONE, x::linked, -1, 0, 1, 2, 3, 4, 9, 10, 17, 18, LEAST, MOST);
        x.chain(0, 1, 0);
        each("behind NONE", NONE, x::linked, 0, 1, 2, 3, 10);
        x.chain(0, 10, 0);
        each("behind RANGE", NONE, x::linked, 0, 1, 2, 3, 10);
    }

    static void p35NoSuchWhat() {
        Hall x = hall("");
        x.chain(0, 0, 0);
        each("without LINKS", NONE, x::linked, -1, 4, 9, 10, 11, 17, 18, LEAST, MOST);
        for (int i = 0; i < 8; i++) deed(x, 1, i, i + 1, 200, 300);
        x.chain(0, 8, 0);
        each("with eight", NONE, x::linked, -1, 4, 9, 18, 19, LEAST, MOST);
        is("the eighth", x.linked(17), 7);
        x.chain(0, 1, 0);
        each("with one", NONE, x::linked, -1, 4, 9, 11, 12, 17, 18, LEAST, MOST);
        is("the first", x.linked(10), 0);
    }

    static void p35OfTheLatestThatToldGaps() {
        Hall x = hall("");
        int a = deed(x, 2, 0, 1, 200, 300);
        x.chain(0, 1, 0);
        is("NONE", x.chain(0, 2, 0), NONE);
        is("RANGE", x.chain(0, 0, 10000), RANGE);
        is("RANGE", x.chain(1, 0, 0), RANGE);
        int[] stays = {0, 3, 1, 0};
        for (int what = 0; what < 4; what++) is("stays " + what, x.linked(what), stays[what]);
        is("its LINK", x.linked(10), a);
        x.paper(1, a, 0, 1, 0, 200, 300);
        is("as it was told", x.linked(1), 3);
        x.chain(0, 0, 0);
        is("another", x.linked(2), 0);
        is("no LINK of the former", x.linked(10), NONE);
    }

    static void p35OfChainAlone() {
        Hall x = hall("notice 0;");
        int a = deed(x, 1, 0, 1, 200, 300);
        x.chain(0, 1, 0);
        is("judge", x.judge("", 0, 0, 0), 0);
        int b = deed(x, 2, 0, 2, 200, 300);
        x.claim(2, 0);
        is("worth, by another LINK", x.worth(0), 3);
        is("its LINK stays", x.linked(10), a);
        is("judged by another LINK", x.judge("" + (char) (48 + b), 0, 2, 0), 0);
        x.claim(0, 0);
        x.worth(1);
        x.sit(0);
        x.settles(0);
        x.next(0);
        is("its LINK stays", x.linked(10), a);
        is("WEAKEST stays", x.linked(1), 6);
    }

    static void p36NoSuchNumbers() {
        Hall x = hall("");
        each("LOT", RANGE, l -> x.judge("", l, 0, 0), beyond(0, 0));
        each("person", RANGE, p -> x.judge("", 0, p, 0), beyond(0, 9));
        each("day", RANGE, known -> x.judge("", 0, 0, known), beyond(0, 9999));
        is("RANGE empties", x.judge("0", 1, 0, 0), RANGE);
        is("bytes", x.count(11), 0);
        is("the first day", x.judge("", 0, 0, 0), 0);
        is("the last", x.judge("", 0, 0, 9999), 0);
    }

    static void p36EightAndNine() {
        Hall x = hall("");
        for (int i = 0; i < 9; i++) deed(x, 1, i, i + 1, 200, 300);
        is("eight", x.judge("01234567", 0, 8, 0), 0);
        is("emptied", x.count(11), 0);
        is("nine", x.judge("012345678", 0, 9, 0), NONE);
        is("emptied", x.count(11), 0);
        is("eight others", x.judge("12345678", 0, 9, 0), 1);
        is("a thousand", x.judge(times("0", 1000), 0, 1, 0), NONE);
    }

    static void p36EachOnce() {
        Hall x = hall("");
        for (int i = 0; i < 8; i++) deed(x, 1, 0, 0, 200, 300);
        is("twice at once", x.judge("00", 0, 0, 0), NONE);
        is("twice at the ends", x.judge("01234560", 0, 0, 0), NONE);
        is("the last twice", x.judge("01234566", 0, 0, 0), NONE);
        is("each once", x.judge("76543210", 0, 0, 0), 0);
    }

    static void p36BytesOfARow() {
        Hall x = hall("");
        x.burnts(30);
        x.paper(1, 0, 0, 1, 0, 200, 300);
        x.paper(1, 29, 1, 2, 0, 200, 300);
        is("48 and 48 + 29", x.judge("0M", 0, 2, 0), 0);
        for (char c : new char[] {0, 10, 32, 47, 48 + 30, 127, 128, 176, 255}) {
            is("byte " + (int) c, x.judge("" + c, 0, 2, 0), NONE);
            is("byte " + (int) c + " behind one", x.judge("0" + c, 0, 1, 0), NONE);
            is("byte " + (int) c + " ahead of one", x.judge(c + "0", 0, 1, 0), NONE);
        }
        is("one of which nothing is SHOWN", x.judge("1", 0, 1, 0), NONE);
        is("ahead of one", x.judge("10", 0, 1, 0), NONE);
        is("a blank is no LINK", x.judge("0M ", 0, 2, 0), NONE);
    }

    static void p36BytesFromDayZeroOn() {
        Hall x = new Hall();
        x.persons(3);
        x.lots(1);
        x.root(0, 0, 0);
        x.act("proof copy 6;");
        deed(x, 1, 0, 1, 0, 50);
        for (char c = '1'; c < '1' + 40; c++) {
            is("byte " + (int) c + " ahead of one", x.judge(c + "0", 0, 1, 0), NONE);
            is("byte " + (int) c + " alone", x.judge("" + c, 0, 0, 0), NONE);
        }
    }

    static void p36NoLinksInARow() {
        Hall x = hall("");
        int a = deed(x, 1, 0, 1, 200, 300);
        int noTaker = deed(x, 1, 1, NONE, 200, 300);
        int noLot = x.burnt();
        x.paper(1, noLot, 1, 2, NONE, 200, 300);
        int noGiver = deed(x, 1, NONE, 2, 200, 300);
        is("numbers", a * 1000 + noTaker * 100 + noLot * 10 + noGiver, 123);
        is("who got isn't SHOWN", x.judge("10", 0, 1, 0), NONE);
        is("behind a LINK", x.judge("013", 0, 2, 0), NONE);
        is("the LOT isn't SHOWN", x.judge("20", 0, 1, 0), NONE);
        is("at the end", x.judge("02", 0, 2, 0), NONE);
        is("who gave isn't SHOWN: a GAP", x.judge("03", 0, 2, 0), 1);
        is("at the begin", x.judge("30", 0, 1, 0), 2);
    }

    static void p36BeginOfEachInARow() {
        Hall x = hall("");
        deed(x, 1, 1, 2, 0, 199);
        deed(x, 1, 0, 1, 200, 300);
        deed(x, 1, 1, 2, 0, 200);
        is("ends ahead of the begin of the one before", x.judge("10", 0, 2, 0), NONE);
        is("ends on it", x.judge("12", 0, 2, 0), 0);
        is("the other way, with GAPS", x.judge("01", 0, 1, 0), 2);
    }

    static void p36FewestOfTwoRoots() {
        for (int first = 0; first < 2; first++) {
            Hall x = new Hall();
            x.persons(5);
            x.lots(2);
            x.act("proof copy 6;");
            x.root(first, 0, 100);
            x.root(1 - first, 4, 100);
            x.join(2, 0, 1, 0, 0, 150, 20);
            for (int i = 0; i < 3; i++) x.paper(1, x.burnt(), i, i + 1, 2, 200, 300);
            is("none by the one ROOT, one by the other, " + first, x.judge("012", 2, 3, 0), 0);
            is("chain, " + first, x.chain(2, 3, 0), 0);
            is("its ROOT, " + first, x.linked(3), first);
        }
    }

    static void p36EmptyRow() {
        Hall x = hall("");
        is("who held it ever", x.judge("", 0, 0, 0), 0);
        is("another", x.judge("", 0, 1, 0), NONE);
        x.lots(1);
        is("without a ROOT", x.judge("", 1, 0, 0), NONE);
    }

    static void p36FewestGaps() {
        Hall x = new Hall();
        x.persons(10);
        x.lots(2);
        x.act("proof copy 6;");
        x.root(0, 0, 100);
        x.root(1, 1, 300);
        x.join(2, 0, 1, 0, 0, 500, 20);
        deed(x, 1, 1, 2, 100, 299);
        deed(x, 1, 1, 3, 100, 300);
        deed(x, 1, 8, 9, 0, 99);
        is("too early for the better ROOT", x.judge("0", 2, 2, 0), 1);
        is("on its day", x.judge("1", 2, 3, 0), 0);
        is("two GAPS", x.judge("01", 2, 3, 0), 2);
        is("too early for each", x.judge("2", 2, 9, 0), NONE);
        is("not of the LINE", x.judge("1", 1, 3, 0), NONE);
        x.paper(1, x.burnt(), 8, 9, 1, 300, 400);
        x.paper(1, x.burnt(), 1, 9, 1, 300, 400);
        is("a GAP from the other ROOT alone", x.judge("3", 1, 9, 0), 1);
        is("none", x.judge("4", 1, 9, 0), 0);
        Hall y = hall("");
        for (int i = 0; i < 8; i++) deed(y, 1, 9, i, 200, 300);
        is("eight GAPS", y.judge("01234567", 0, 7, 0), 8);
    }

    static void p36EndsWithAnother() {
        Hall x = hall("");
        deed(x, 1, 0, 1, 200, 300);
        deed(x, 1, 1, 2, 200, 300);
        is("the last one got it", x.judge("01", 0, 2, 0), 0);
        is("the one before doesn't count", x.judge("01", 0, 1, 0), NONE);
        is("nor who held it ever", x.judge("0", 0, 0, 0), NONE);
    }

    static void p36SpansOfARow() {
        Hall x = hall("");
        deed(x, 1, 0, 1, 200, 300);
        deed(x, 1, 1, 2, 0, 200);
        deed(x, 1, 1, 3, 0, 199);
        deed(x, 1, 2, 4, 100, 200);
        deed(x, 1, 2, 5, 100, 199);
        is("not ahead of the begin", x.judge("01", 0, 2, 0), 0);
        is("a day ahead of it", x.judge("02", 0, 3, 0), NONE);
        is("the begin of the one before that", x.judge("013", 0, 4, 0), 0);
        is("a day ahead of that", x.judge("014", 0, 5, 0), NONE);
        is("from the ROOT on, with a GAP", x.judge("2", 0, 3, 0), 1);
    }

    static void p37NoSuchNumbers() {
        Hall x = hall("");
        each("LOT", RANGE, l -> x.held(l, 0, 0, 0), beyond(0, 0));
        each("person", RANGE, p -> x.held(0, p, 0, 0), beyond(0, 9));
        each("year", RANGE, y -> x.held(0, 0, y, 0), beyond(0, 27));
        each("day", RANGE, known -> x.held(0, 0, 0, known), beyond(0, 9999));
        is("the least", x.held(0, 0, 0, 0), 0);
        is("the greatest", x.held(0, 9, 27, 9999), 0);
    }

    private static Hall taxed(int from, int to) {
        Hall x = hall("");
        x.paper(4, NONE, NONE, 1, 0, from, to);
        return x;
    }

    static void p37DaysOfAYear() {
        int[][] spans = {{0, 364}, {364, 364}, {365, 365}, {729, 729}, {730, 730}};
        int[] years = {0, 0, 1, 1, 2};
        for (int i = 0; i < spans.length; i++) {
            Hall x = taxed(spans[i][0], spans[i][1]);
            for (int y = 0; y < 4; y++) is("year " + y + " by " + spans[i][0], x.held(0, 1, y, 0), y == years[i] ? 1 : 0);
        }
        Hall x = taxed(364, 365);
        is("the last and the first day: year 0", x.held(0, 1, 0, 0), 1);
        is("year 1", x.held(0, 1, 1, 0), 2);
        is("year 2", x.held(0, 1, 2, 0), 0);
    }

    static void p37FirstAndLastYear() {
        Hall x = taxed(0, 9999);
        is("year 0", x.held(0, 1, 0, 0), 1);
        is("year 27", x.held(0, 1, 27, 0), 28);
        Hall y = taxed(9854, 9854);
        is("9854 is of year 26", y.held(0, 1, 26, 0), 1);
        is("not of 27", y.held(0, 1, 27, 0), 0);
        Hall z = taxed(9855, 9999);
        is("9855 is of year 27", z.held(0, 1, 27, 0), 1);
        is("not of 26", z.held(0, 1, 26, 0), 0);
    }

    static void p37OneBehindTheOther() {
        Hall x = taxed(0, 729);
        x.paper(4, NONE, NONE, 1, 0, 1095, 1460);
        int[] held = {1, 2, 0, 1, 2, 0};
        for (int y = 0; y < held.length; y++) is("year " + y, x.held(0, 1, y, 0), held[y]);
        x.paper(4, NONE, NONE, 1, 0, 1094, 1094);
        is("the year that lacked", x.held(0, 1, 4, 0), 5);
    }

    static void p37WhichPapers() {
        Hall x = hall("");
        x.lots(1);
        x.paper(4, NONE, NONE, 2, 0, 0, 9);
        x.paper(4, NONE, 1, NONE, 0, 0, 9);
        x.paper(4, NONE, NONE, 1, NONE, 0, 9);
        x.paper(4, NONE, NONE, 1, 1, 0, 9);
        x.act("proof deed 1;proof copy 1;proof index 1;proof oath 1;proof tax 1;proof plate 1;proof abstract 1;");
        for (int kind = 0; kind < 7; kind++) {
            if (kind != 4) x.paper(kind, NONE, NONE, 1, 0, 0, 9);
        }
        is("none of these", x.held(0, 1, 0, 0), 0);
        int tax = x.paper(4, NONE, NONE, 1, 0, 0, 9);
        is("this one", x.held(0, 1, 0, 0), 1);
        x.written(tax, 5, 100, 0, 0);
        x.dead(5, 99);
        is("not if it can't be", x.held(0, 1, 0, 0), 0);
    }

    static void p37OfABurntOneToo() {
        Hall x = hall("");
        x.paper(4, x.burnt(), 2, 1, 0, 0, 9);
        is("who got", x.held(0, 1, 0, 0), 1);
        is("not who gave", x.held(0, 2, 0, 0), 0);
        x.paper(4, 0, 2, 3, 0, 0, 9);
        is("who got is a QUARREL", x.shown(0, 0, 9), 2);
        is("the PAPER SHOWS it all the same", x.held(0, 1, 0, 0), 1);
        is("so does the other", x.held(0, 3, 0, 0), 1);
    }

    static void p37ByTheLastOfAllPapers() {
        Hall x = hall("");
        for (int k = 0; k < 119; k++) x.paper(4, NONE, NONE, 2, 0, 365, 400);
        is("the 120th", x.paper(4, NONE, NONE, 1, 0, 0, 9), 119);
        is("by it alone", x.held(0, 1, 0, 0), 1);
        is("not the year of the others", x.held(0, 1, 1, 0), 0);
    }

    static void p37WeightAboveZero() {
        Hall x = hall("proof tax 0 when a;proof tax 1 when b;");
        x.text("a;").paper(4, NONE, NONE, 1, 0, 0, 9);
        is("0", x.held(0, 1, 0, 0), 0);
        x.text("b;").paper(4, NONE, NONE, 1, 0, 0, 9);
        is("1", x.held(0, 1, 0, 0), 1);
    }

    static void p37KnownByThen() {
        Hall x = hall("");
        x.pass(10);
        x.paper(4, NONE, NONE, 1, 0, 0, 9);
        is("a day ahead", x.held(0, 1, 0, 9), 0);
        is("that day", x.held(0, 1, 0, 10), 1);
        x.pass(10);
        x.same(1, 2);
        is("one with it, a day ahead", x.held(0, 2, 0, 19), 0);
        is("that day", x.held(0, 2, 0, 20), 1);
        x.pass(10);
        x.act("");
        is("by the ACT of a day ahead", x.held(0, 1, 0, 29), 1);
        is("of that day: no WEIGHT", x.held(0, 1, 0, 30), 0);
    }

    static void p37OfItsLine() {
        Hall x = hall("");
        x.split(0, 365, 2, 5, 5, 0, 0);
        x.paper(4, NONE, NONE, 1, 0, 0, 364);
        x.paper(4, NONE, NONE, 1, 1, 365, 365);
        is("of what came of it it isn't", x.held(0, 1, 1, 0), 0);
        is("of what it came of it is", x.held(1, 1, 1, 0), 2);
        is("not of its like", x.held(2, 1, 1, 0), 0);
        is("but of both before", x.held(2, 1, 0, 0), 1);
    }
}
