/** Promises 1 to 12: a new object, THE TAPE, the CLOCK, persons and TELLINGS. */
public final class TapeAndPersonsTest {
    public static void main(String[] args) {
        newObject();
        tape();
        clock();
        persons();
        tellings();
        deadAndOne();
        names();
        Due.end();
    }

    private static void newObject() {
        BurntHall x = new BurntHall();
        for (int what = 0; what <= 11; what++) Due.is("new: count " + what, x.count(what), 0);
        for (int what = 20; what <= 23; what++) Due.is("new: count " + what, x.count(what), 0);
        Due.is("new: fault kind", x.fault(0), 0);
        Due.is("new: fault place", x.fault(1), Due.NONE);
        Due.is("new: linked", x.linked(0), Due.NONE);
        Due.is("new: looked", x.looked(0), Due.NONE);
        int[] untold = {1, 20, 8, 2, 30, 20, 10, 2, 0, 0, 0};
        for (int what = 0; what < untold.length; what++) Due.is("untold rule " + what, x.rule(0, what), untold[what]);
    }

    private static void tape() {
        BurntHall x = new BurntHall();
        for (int i = 1; i <= 50; i++) Due.is("feed " + i, x.feed(0x6e20393b, 0, 0, 0, 0), 20 * i);
        Due.is("the 51st feed", x.feed(0, 0, 0, 0, 0), Due.FULL);
        Due.is("still 1000", x.count(11), 1000);
        Due.is("end beyond", x.end(1001), Due.NONE);
        Due.is("end below 0", x.end(-1), Due.NONE);
        Due.is("end at its length", x.end(1000), 1000);
        Due.is("end 981", x.end(981), 981);
        Due.is("981 and 20", x.feed(0, 0, 0, 0, 0), Due.FULL);
        Due.is("end 980", x.end(980), 980);
        Due.is("980 and 20", x.feed(0, 0, 0, 0, 0), 1000);
        Due.is("end 4", x.end(4), 4);
        Due.is("end 5 of 4", x.end(5), Due.NONE);
        x.lot(5, 0);
        Due.is("the highest byte comes first: n 9;", x.bounds(0, 0, 0), 1);
        Due.is("its line", x.about(0, 10), 9);
        Due.is("who reads empties", x.count(11), 0);
        Due.is("end 0", x.end(0), 0);
        Due.is("end 1 of nothing", x.end(1), Due.NONE);
        x.feed(0x20202020, 0x20202020, 0x73313b20, 0x20202020, 0x0a0a0a65);
        x.feed(0x333b2020, 0x20202020, 0x20202020, 0x20202020, 0x20202020);
        Due.is("bytes across feeds", x.bounds(0, 0, 0), 2);
        Due.is("s 1", x.about(0, 10), 200001);
        Due.is("e 3", x.about(0, 11), 100003);
        Due.text(x, "n 1;");
        Due.is("RANGE", x.bounds(9, 0, 0), Due.RANGE);
        Due.is("empties whatever it tells: bounds", x.count(11), 0);
        Due.text(x, "n 1;");
        Due.is("RANGE", x.paper(9, 0, 0, 0, 0, 0, 0), Due.RANGE);
        Due.is("empties whatever it tells: paper", x.count(11), 0);
        Due.text(x, "n 1;");
        Due.is("RANGE", x.judge(9, 0, 0), Due.RANGE);
        Due.is("empties whatever it tells: judge", x.count(11), 0);
        Due.text(x, "n 1;");
        Due.is("NONE", x.act(), Due.NONE);
        Due.is("empties whatever it tells: act", x.count(11), 0);
    }

    private static void clock() {
        BurntHall x = new BurntHall();
        Due.is("pass 0", x.pass(0), Due.RANGE);
        Due.is("pass 5001", x.pass(5001), Due.RANGE);
        Due.is("pass -1", x.pass(-1), Due.RANGE);
        Due.is("pass most", x.pass(Integer.MAX_VALUE), Due.RANGE);
        Due.is("pass 1", x.pass(1), 1);
        Due.is("pass 5000", x.pass(5000), 5001);
        Due.is("pass beyond", x.pass(4999), Due.RANGE);
        Due.is("the clock stays", x.count(0), 5001);
        Due.is("pass to the last", x.pass(4998), 9999);
        Due.is("pass behind the last", x.pass(1), Due.RANGE);
    }

    private static void persons() {
        BurntHall x = new BurntHall();
        Due.is("from -1", x.person(-1), Due.RANGE);
        Due.is("from 10000", x.person(10000), Due.RANGE);
        for (int i = 0; i < 80; i++) Due.is("person " + i, x.person(i % 2 * 9999), i);
        Due.is("the 81st", x.person(0), Due.FULL);
        Due.is("RANGE ahead of FULL", x.person(-1), Due.RANGE);
        Due.is("count", x.count(1), 80);
    }

    private static void tellings() {
        BurntHall x = new BurntHall();
        x.person(0);
        x.person(0);
        Due.is("dead: no person", x.dead(2, 0), Due.RANGE);
        Due.is("dead: day", x.dead(0, 10000), Due.RANGE);
        Due.is("dead: day below", x.dead(0, -1), Due.RANGE);
        Due.is("same: like", x.same(1, 1), Due.RANGE);
        Due.is("same: none", x.same(0, 2), Due.RANGE);
        Due.is("apart: like", x.apart(0, 0), Due.RANGE);
        Due.is("apart: none", x.apart(-1, 0), Due.RANGE);
        Due.is("child: like", x.child(1, 1), Due.RANGE);
        Due.is("child: none", x.child(0, -1), Due.RANGE);
        for (int i = 0; i < 400; i++) {
            int got = i % 4 == 0 ? x.dead(0, 9999) : i % 4 == 1 ? x.same(0, 1) : i % 4 == 2 ? x.apart(0, 1) : x.child(0, 1);
            Due.is("telling " + i, got, i + 1);
        }
        Due.is("dead: full", x.dead(0, 0), Due.FULL);
        Due.is("same: full", x.same(0, 1), Due.FULL);
        Due.is("apart: full", x.apart(0, 1), Due.FULL);
        Due.is("child: full", x.child(0, 1), Due.FULL);
        Due.is("RANGE ahead of FULL", x.same(0, 0), Due.RANGE);
        Due.is("count", x.count(2), 400);
        Due.is("what was told counts still", x.names(0), 100);
        Due.is("the first death", x.deadOn(1, 0), 9999);
    }

    private static void deadAndOne() {
        BurntHall x = new BurntHall();
        for (int i = 0; i < 80; i++) x.person(0);
        Due.is("one with itself", x.one(7, 7, 0), 1);
        Due.is("not one", x.one(7, 79, 0), 0);
        x.same(7, 70);
        x.dead(70, 300);
        x.pass(10);
        x.same(79, 70);
        x.dead(79, 200);
        x.pass(10);
        x.dead(7, 250);
        x.apart(7, 79);
        Due.is("ahead of the second SAME", x.one(7, 79, 9), 0);
        Due.is("on its day", x.one(7, 79, 10), 1);
        Due.is("both ways", x.one(79, 7, 9999), 1);
        Due.is("apart makes nothing not ONE", x.one(79, 7, 20), 1);
        Due.is("dead through one", x.deadOn(7, 9), 300);
        Due.is("the least of all", x.deadOn(7, 10), 200);
        Due.is("a later telling of a later day", x.deadOn(70, 20), 200);
        Due.is("alone", x.deadOn(79, 9), Due.NONE);
        Due.is("nobody told", x.deadOn(0, 9999), Due.NONE);
        Due.is("no person", x.deadOn(80, 0), Due.RANGE);
        Due.is("no day", x.deadOn(0, 10000), Due.RANGE);
        Due.is("no day below", x.deadOn(0, -1), Due.RANGE);
        Due.is("one: no person", x.one(-1, 0, 0), Due.RANGE);
        Due.is("one: no person", x.one(0, 80, 0), Due.RANGE);
        Due.is("one: no day", x.one(0, 0, -1), Due.RANGE);
        Due.is("one: no day", x.one(0, 0, 10000), Due.RANGE);
    }

    private static void names() {
        BurntHall x = new BurntHall();
        for (int i = 0; i < 4; i++) x.person(0);
        x.apart(0, 2);
        x.apart(2, 0);
        x.apart(0, 3);
        x.pass(5);
        x.same(0, 1);
        x.pass(5);
        x.same(1, 2);
        x.pass(5);
        x.apart(1, 2);
        Due.is("none yet", x.names(9), 0);
        Due.is("each telling", x.names(10), 2);
        Due.is("one more", x.names(15), 3);
        Due.is("known later", x.names(9999), 3);
        Due.is("no day", x.names(-1), Due.RANGE);
        Due.is("no day", x.names(10000), Due.RANGE);
    }
}
