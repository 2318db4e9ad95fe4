import java.lang.management.ManagementFactory;
import java.lang.reflect.Array;
import java.lang.reflect.Field;
import java.lang.reflect.Modifier;
import java.util.Collections;
import java.util.IdentityHashMap;
import java.util.Set;

/**
 * LANGUAGE.md, rule 12: what a run makes. A room has some 600,000 objects and 7.3 million fields and elements, and
 * the dearest call is to make a hall: 512 of them fit. No other call but act() makes anything at all.
 */
public final class RoomTest {
    private static final int CALLS = 512;
    private static final long MOST_OBJECTS = 600_000;
    private static final long MOST_ELEMENTS = 7_300_000;
    private static final com.sun.management.ThreadMXBean THREADS =
            (com.sun.management.ThreadMXBean) ManagementFactory.getThreadMXBean();

    private long objects;
    private long elements;
    private final Set<Object> seen = Collections.newSetFromMap(new IdentityHashMap<>());

    public static void main(String[] args) throws IllegalAccessException {
        RoomTest made = new RoomTest();
        made.walk(new BurntHall());
        System.out.println("a new hall: " + made.objects + " objects, " + made.elements + " fields and elements");
        Due.is("objects of 512 halls fit", CALLS * made.objects <= MOST_OBJECTS ? 1 : 0, 1);
        Due.is("elements of 512 halls fit", CALLS * made.elements <= MOST_ELEMENTS ? 1 : 0, 1);
        RoomTest full = new RoomTest();
        full.walk(fullHall());
        Due.is("objects of a full hall", full.objects, made.objects);
        Due.is("a full hall has no more than its ACTS' steps beside", full.elements - made.elements <= 8 * 1000 ? 1 : 0, 1);
        for (int round = 0; round < 3; round++) actsMakeOneRow();
        for (int round = 0; round < 3; round++) othersMakeNothing(round == 2);
        Due.end();
    }

    private void walk(Object o) throws IllegalAccessException {
        if (o == null || o instanceof String || !seen.add(o)) return;
        objects++;
        Class<?> type = o.getClass();
        if (type.isArray()) {
            elements += Array.getLength(o);
            if (o instanceof Object[] many) for (Object each : many) walk(each);
            return;
        }
        for (Field field : type.getDeclaredFields()) {
            if (Modifier.isStatic(field.getModifiers())) continue;
            elements++;
            field.setAccessible(true);
            if (!field.getType().isPrimitive()) walk(field.get(o));
        }
    }

    /** As many of each as 512 calls let be together, and eight ACTS of 1000 bytes. */
    private static BurntHall fullHall() {
        BurntHall x = new BurntHall();
        String cond = "proof tax 1 when " + "1or".repeat(11) + "1;";
        for (int i = 0; i < 8; i++) ActTest.act(x, cond.repeat(1000 / cond.length()));
        Due.is("ACTS", x.count(4), 8);
        for (int i = 0; i < 12; i++) x.person(0);
        for (int i = 0; i < 20; i++) x.lot(10, 0);
        for (int i = 0; i < 20; i++) x.root(i, 0, 0);
        for (int i = 0; i < 10; i++) x.burnt();
        for (int i = 0; i < 10; i++) x.paper(4, i, i, i + 1, i, 0, 9999);
        return x;
    }

    private static void actsMakeOneRow() {
        BurntHall x = new BurntHall();
        Due.text(x, "proof tax 1 when a;".repeat(20));
        long before = THREADS.getCurrentThreadAllocatedBytes();
        int clauses = x.act();
        long bytes = THREADS.getCurrentThreadAllocatedBytes() - before;
        Due.is("clauses", clauses, 20);
        Due.is("act() makes a row of 40 steps: " + bytes, bytes <= 40 * 8 + 200 ? 1 : 0, 1);
    }

    /** The first rounds only make the machine load what it needs. */
    private static void othersMakeNothing(boolean counted) {
        BurntHall x = new BurntHall();
        ActTest.act(x, "proof copy 6;proof oath 2;proof tax 3 when a;sure 12;doubt 1;notice 0;heirs;fund 2;years 1;");
        Due.text(x, "n9;e9;s9;w8;");
        long before = THREADS.getCurrentThreadAllocatedBytes();
        int sum = persons(x) + lots(x) + papers(x) + claims(x);
        long bytes = THREADS.getCurrentThreadAllocatedBytes() - before;
        Due.is("something was answered", sum != 0 ? 1 : 0, 1);
        if (counted) Due.is("bytes made by calls: " + bytes, bytes <= 200 ? 1 : 0, 1);
    }

    private static int persons(BurntHall x) {
        int sum = 0;
        for (int i = 0; i < 12; i++) sum += x.person(0);
        sum += x.dead(0, 500) + x.same(0, 11) + x.apart(0, 1) + x.child(0, 10);
        return sum + x.deadOn(11, 0) + x.one(0, 11, 0) + x.names(0) + x.pass(1);
    }

    private static int lots(BurntHall x) {
        int sum = x.lot(10, 0) + x.lot(20, 0) + x.bounds(0, 1, 1) + x.error(0) + x.mend(0) + x.area(0) + x.strip(0, 1);
        sum += x.split(0, 700, 2, 5, 5, 0, 0) + x.join(2, 2, 3, 0, 0, 800, 10) + x.about(4, 0) + (int) x.line(4);
        return sum + x.fault(0) + x.rule(0, 1) + x.end(0) + x.feed(0, 0, 0, 0, 0) + x.judge(0, 0, 0);
    }

    private static int papers(BurntHall x) {
        int sum = x.root(0, 0, 0) + x.root(1, 0, 0);
        for (int b = 0; b < 9; b++) {
            sum += x.burnt();
            sum += x.feed(0x613b2020, 0x20202020, 0x20202020, 0x20202020, 0x20202020);
            sum += x.paper(b % 2 == 0 ? 1 : 3, b, b, b + 1, 1, 10 * b, 10 * b + 50);
            sum += x.paper(4, -1, -1, b, 1, 0, 364) + x.written(2 * b, b, 50, 1, 1) + x.weight(b, 0);
            sum += x.cant(b, 1) + x.shown(b, 1, 8);
        }
        for (int p = 0; p < 12; p++) sum += x.chain(1, p, 1) + x.linked(10) + x.held(1, p, 0, 1);
        sum += x.feed(0x30313233, 0, 0, 0, 0) + x.end(4) + x.judge(1, 4, 1) + x.pages(2);
        return sum + x.mortgage(1, 0, 5, 0, 5) + x.stands(0, 3, 1) + x.rank(0, 3, 1) + x.paid(0, 3);
    }

    private static int claims(BurntHall x) {
        int sum = x.claim(3, 1) + x.claim(4, 1) + x.worth(0) + x.sit(1) + x.claimed(0, 3) + x.ruled(1, 2);
        for (int i = 0; i < 12; i++) sum += x.place(1 + i, i % 9, 5);
        sum += x.settles(4095) + x.next(1200) + x.looked(0) + x.fund(9) + x.open(1);
        for (int what = 0; what < 24; what++) sum += x.count(what);
        return sum;
    }
}
