import java.util.function.IntBinaryOperator;

/** Boundary cases of promises 5 to 12: persons, TELLINGS, who is DEAD and ONE, QUARRELS of names. */
public final class PersonEdgesTest extends Edges {
    public static void main(String[] args) {
        run(PersonEdgesTest.class, 5, 12);
    }

    static void p05FirstAndLastDay() {
        Hall x = new Hall();
        each("from", RANGE, x::person, beyond(0, 9999));
        is("nobody came", x.count(1), 0);
        is("from 0", x.person(0), 0);
        is("refused between", x.person(10000), RANGE);
        is("from 9999 has the next number", x.person(9999), 1);
        is("persons", x.count(1), 2);
    }

    static void p05EightyAreFull() {
        Hall x = new Hall();
        for (int i = 0; i < 80; i++) is("person " + i, x.person(0), i);
        is("the 81st", x.person(0), FULL);
        is("the 81st of the last day", x.person(9999), FULL);
        each("RANGE when full", RANGE, x::person, beyond(0, 9999));
        is("persons", x.count(1), 80);
        is("the last is there", x.deadOn(79, 0), NONE);
        is("no further one", x.deadOn(80, 0), RANGE);
    }

    static void p06NoSuchPersonOrDay() {
        Hall x = new Hall();
        x.persons(2);
        each("person", RANGE, p -> x.dead(p, 5), beyond(0, 1));
        each("day", RANGE, day -> x.dead(0, day), beyond(0, 9999));
        is("nothing was told", x.count(2), 0);
        is("of nobody", x.deadOn(0, 0), NONE);
        is("the first and day 0", x.dead(0, 0), 1);
        is("the last and day 9999", x.dead(1, 9999), 2);
        is("day 0", x.deadOn(0, 0), 0);
        is("day 9999", x.deadOn(1, 0), 9999);
    }

    static void p06FullOfTellings() {
        Hall x = new Hall();
        x.persons(1);
        for (int i = 1; i <= 400; i++) is("TELLING " + i, x.dead(0, 9000 - i), i);
        is("the 401st", x.dead(0, 5), FULL);
        is("RANGE when full: person", x.dead(1, 5), RANGE);
        is("RANGE when full: day", x.dead(0, 10000), RANGE);
        is("TELLINGS", x.count(2), 400);
        is("the 400th counts, the 401st doesn't", x.deadOn(0, 0), 8600);
    }

    private static void ofTwo(Hall x, IntBinaryOperator tell) {
        x.persons(80);
        each("the first", RANGE, p -> tell.applyAsInt(p, 1), beyond(0, 79));
        each("the second", RANGE, q -> tell.applyAsInt(1, q), beyond(0, 79));
        each("both are", RANGE, p -> tell.applyAsInt(p, p), 0, 79, 80, -1);
        is("nothing was told", x.count(2), 0);
        is("the first and the last", tell.applyAsInt(0, 79), 1);
        is("the other way", tell.applyAsInt(79, 0), 2);
        is("again", tell.applyAsInt(0, 79), 3);
    }

    private static void untilFull(Hall x, IntBinaryOperator tell) {
        x.persons(3);
        for (int i = 1; i <= 400; i++) is("TELLING " + i, tell.applyAsInt(0, 1), i);
        is("the 401st", tell.applyAsInt(1, 2), FULL);
        is("RANGE when full: like", tell.applyAsInt(0, 0), RANGE);
        is("RANGE when full: nobody", tell.applyAsInt(0, 3), RANGE);
        is("TELLINGS", x.count(2), 400);
    }

    static void p07NoSuchPersonsOrLike() {
        Hall x = new Hall();
        ofTwo(x, x::same);
        is("the refused ones told nothing", x.one(0, 1, 0), 0);
        is("the others did", x.one(0, 79, 0), 1);
    }

    static void p07FullOfTellings() {
        Hall x = new Hall();
        untilFull(x, x::same);
        is("the 401st doesn't count", x.one(1, 2, 0), 0);
        is("those ahead of it do", x.one(0, 1, 0), 1);
    }

    static void p08NoSuchPersonsOrLike() {
        Hall x = new Hall();
        ofTwo(x, x::apart);
        is("no QUARREL", x.names(0), 0);
        is("SAME", x.same(0, 79), 4);
        is("three of names", x.names(0), 3);
    }

    static void p08FullOfTellings() {
        Hall x = new Hall();
        x.persons(3);
        x.same(0, 1);
        x.same(1, 2);
        for (int i = 3; i <= 400; i++) is("TELLING " + i, x.apart(0, 1), i);
        is("the 401st", x.apart(1, 2), FULL);
        is("RANGE when full", x.apart(2, 2), RANGE);
        is("the 401st is no QUARREL", x.names(0), 398);
    }

    static void p09NoSuchPersonsOrLike() {
        Hall x = new Hall();
        ofTwo(x, x::child);
        x.lots(1);
        x.root(0, 0, 0);
        x.dead(0, 0);
        x.act("heirs;");
        is("a CHILD", x.chain(0, 79, 0), 0);
        is("one told with nobody is none", x.chain(0, 1, 0), NONE);
    }

    static void p09FullOfTellings() {
        Hall x = new Hall();
        x.persons(3);
        x.lots(1);
        x.root(0, 0, 0);
        x.act("heirs;");
        x.dead(0, 0);
        for (int i = 2; i <= 400; i++) is("TELLING " + i, x.child(0, 1), i);
        is("the 401st", x.child(0, 2), FULL);
        is("RANGE when full", x.child(0, 3), RANGE);
        is("a CHILD", x.chain(0, 1, 0), 0);
        is("the 401st tells none", x.chain(0, 2, 0), NONE);
    }

    static void p09EachOfEighty() {
        Hall x = new Hall();
        x.persons(80);
        x.lots(1);
        x.act("heirs;");
        x.root(0, 79, 0);
        x.dead(79, 0);
        int[] children = {0, 31, 32, 62, 63, 64, 65, 78};
        for (int i = 0; i < children.length; i++) {
            x.pass(1);
            x.child(79, children[i]);
            for (int j = 0; j < children.length; j++) {
                is("CHILD " + children[j] + " on day " + (i + 1), x.chain(0, children[j], i + 1), j <= i ? 0 : NONE);
            }
        }
        is("none on day 0", x.chain(0, 0, 0), NONE);
        is("none on day 0", x.chain(0, 78, 0), NONE);
        for (int p : new int[] {1, 14, 15, 30, 33, 61, 66, 77}) is("no CHILD " + p, x.chain(0, p, 9999), NONE);
    }

    static void p09ParentAndChildAreNotLikewise() {
        Hall x = new Hall();
        x.persons(2);
        x.lots(1);
        x.root(0, 1, 0);
        x.dead(1, 0);
        x.child(0, 1);
        x.act("heirs;");
        is("a parent is no heir", x.chain(0, 0, 0), NONE);
    }

    static void p10NoSuchPersonOrDay() {
        Hall x = new Hall();
        x.persons(80);
        x.dead(79, 7);
        each("person", RANGE, p -> x.deadOn(p, 0), beyond(0, 79));
        each("day", RANGE, known -> x.deadOn(79, known), beyond(0, 9999));
        is("the last person, the first day", x.deadOn(79, 0), 7);
        is("the last day", x.deadOn(79, 9999), 7);
        is("the first person", x.deadOn(0, 9999), NONE);
    }

    static void p10KnownFromTheDayItWasTold() {
        Hall x = new Hall();
        x.persons(1);
        x.pass(10);
        x.dead(0, 3);
        is("a day ahead", x.deadOn(0, 9), NONE);
        is("that day", x.deadOn(0, 10), 3);
        is("a day behind the CLOCK's", x.deadOn(0, 11), 3);
    }

    static void p10ToldOnTheLastDay() {
        Hall x = new Hall();
        x.persons(1);
        x.pass(5000);
        x.pass(4999);
        x.dead(0, 0);
        is("on 9998", x.deadOn(0, 9998), NONE);
        is("on 9999", x.deadOn(0, 9999), 0);
    }

    static void p10LeastDayOfAll() {
        Hall x = new Hall();
        x.persons(3);
        x.dead(0, 500);
        x.pass(1);
        x.dead(0, 499);
        x.pass(1);
        x.dead(0, 501);
        x.same(2, 1);
        x.dead(2, 0);
        x.pass(1);
        x.same(1, 0);
        int[] days = {500, 499, 499, 0};
        for (int known = 0; known < 4; known++) is("KNOWN on " + known, x.deadOn(0, known), days[known]);
        is("through another", x.deadOn(1, 2), 0);
    }

    static void p11NoSuchPersonOrDay() {
        Hall x = new Hall();
        x.persons(80);
        each("the first", RANGE, p -> x.one(p, 0, 0), beyond(0, 79));
        each("the second", RANGE, q -> x.one(0, q, 0), beyond(0, 79));
        each("day", RANGE, known -> x.one(0, 79, known), beyond(0, 9999));
        is("the last day", x.one(0, 79, 9999), 0);
    }

    static void p11WithItself() {
        Hall x = new Hall();
        x.persons(80);
        is("the first", x.one(0, 0, 0), 1);
        is("the last", x.one(79, 79, 9999), 1);
        x.apart(79, 78);
        is("with a TELLING of another", x.one(79, 79, 0), 1);
    }

    static void p11KnownFromTheDayItWasTold() {
        Hall x = new Hall();
        x.persons(2);
        x.pass(10);
        x.same(1, 0);
        is("a day ahead", x.one(0, 1, 9), 0);
        is("that day", x.one(0, 1, 10), 1);
        is("both ways", x.one(1, 0, 10), 1);
        is("asked of day 9 again", x.one(1, 0, 9), 0);
        is("the last day", x.one(1, 0, 9999), 1);
    }

    static void p11WhoCameSinceTheLastQuestion() {
        Hall x = new Hall();
        x.persons(1);
        is("the first", x.one(0, 0, 0), 1);
        x.person(0);
        is("is not the next", x.one(0, 1, 0), 0);
        is("who is one with itself", x.one(1, 1, 0), 1);
        x.dead(0, 5);
        is("DEAD", x.deadOn(0, 0), 5);
        x.person(0);
        is("the next isn't", x.deadOn(2, 0), NONE);
    }

    static void p11ARowOfEighty() {
        Hall x = new Hall();
        x.persons(80);
        for (int i = 0; i < 79; i++) {
            int p = i * 37 % 79;
            if (i == 78) x.pass(1);
            if (i % 2 == 0) x.same(p, p + 1); else x.same(p + 1, p);
        }
        int last = 78 * 37 % 79;
        is("from end to end", x.one(0, 79, 1), 1);
        is("the other way", x.one(79, 0, 1), 1);
        is("ahead of the last TELLING", x.one(0, 79, 0), 0);
        is("up to the place that lacks", x.one(0, last, 0), 1);
        is("not beyond it", x.one(0, last + 1, 0), 0);
        is("from there on", x.one(last + 1, 79, 0), 1);
    }

    static void p11TwoRowsStayTwo() {
        Hall x = new Hall();
        x.persons(6);
        x.same(1, 4);
        x.same(0, 2);
        x.same(5, 3);
        int[] rows = {0, 1, 0, 3, 1, 3};
        for (int p = 0; p < 6; p++) {
            for (int q = 0; q < 6; q++) is("one(" + p + ", " + q + ")", x.one(p, q, 0), rows[p] == rows[q] ? 1 : 0);
        }
        x.same(4, 5);
        for (int p : new int[] {1, 3, 4, 5}) {
            is(p + " and 1", x.one(p, 1, 0), 1);
            is(p + " and 2", x.one(p, 2, 0), 0);
        }
    }

    static void p12NoSuchDay() {
        Hall x = new Hall();
        each("day", RANGE, x::names, beyond(0, 9999));
        is("the first", x.names(0), 0);
        is("the last", x.names(9999), 0);
    }

    static void p12BothKnownByThen() {
        Hall x = new Hall();
        x.persons(3);
        x.pass(1);
        x.same(0, 1);
        x.pass(1);
        x.apart(1, 0);
        x.apart(0, 2);
        x.pass(1);
        x.same(1, 2);
        int[] quarrels = {0, 0, 1, 2};
        for (int known = 0; known < 4; known++) is("KNOWN on " + known, x.names(known), quarrels[known]);
        is("the last day", x.names(9999), 2);
    }

    static void p12EachTellingCounts() {
        Hall x = new Hall();
        x.persons(2);
        x.apart(0, 1);
        is("APART alone", x.names(0), 0);
        x.apart(1, 0);
        x.apart(0, 1);
        x.same(0, 1);
        is("three TELLINGS", x.names(0), 3);
        x.child(0, 1);
        x.dead(0, 1);
        x.same(1, 0);
        is("others are no QUARREL", x.names(0), 3);
    }
}
