import java.lang.reflect.InvocationTargetException;
import java.lang.reflect.Method;
import java.util.ArrayList;
import java.util.List;
import java.util.Random;

/** Halls that are as full as can be, and any numbers at all: no call throws, and each ends soon. */
public final class FullTest {
    private static final int[] ODD = {-2, -1, 0, 1, 2, 7, 12, 29, 30, 59, 60, 79, 80, 119, 120, 364, 365, 9999, 10000,
        4095, 4096, 99999, 1000000, Integer.MAX_VALUE, Integer.MIN_VALUE};

    public static void main(String[] args) throws IllegalAccessException {
        for (int seed = 0; seed < 40; seed++) {
            Random random = new Random(seed);
            BurntHall x = new BurntHall();
            if (seed % 4 > 0) fill(x, random, seed);
            anything(x, random, seed % 4 > 0 ? 150 : 511);
        }
        Due.end();
    }

    private static void fill(BurntHall x, Random random, int seed) {
        ActTest.act(x, "proof deed 99;proof copy 9 when a;proof oath 3;proof tax 5;sure 90;doubt 1;notice 0;years 2;long 1;fund 5;"
                + (seed % 2 == 0 ? "heirs;" : ""));
        for (int i = 0; i < 80; i++) x.person(0);
        for (int i = 0; i < 30; i++) x.lot(10, 0);
        for (int i = 0; i < 30; i++) x.root(i, random.nextInt(10), random.nextInt(5));
        for (int i = 0; i < 7; i++) x.join(4, 4 * i, 4 * i + 1, 4 * i + 2, 4 * i + 3, 50, 40);
        x.join(4, 30, 31, 32, 33, 60, 40);
        for (int i = 0; i < 30; i++) x.burnt();
        for (int i = 0; i < 120; i++) {
            int b = i % 30;
            Random fixed = new Random(b + 100L * seed);
            int from = fixed.nextInt(100);
            x.paper(random.nextInt(5), b, fixed.nextInt(12), fixed.nextInt(12), fixed.nextInt(20), from, from + 50);
        }
        for (int i = 0; i < 12; i++) x.place(1 + i, i, 1 + random.nextInt(99));
        for (int i = 0; i < 15; i++) x.claim(random.nextInt(12), 28 + i % 2);
        x.sit(28);
        x.sit(29);
        for (int p = 0; p < 12; p++) x.chain(37, p, 0);
        Due.is("full of BURNT ones", x.burnt(), Due.FULL);
        Due.is("full of PAPERS", x.paper(0, 0, 0, 0, 0, 0, 0), Due.FULL);
        Due.is("full of PLACES", x.place(1, 0, 1), Due.FULL);
        Due.is("a whole search ends", x.next(1200) >= 0 ? 1 : 0, 1);
    }

    private static void anything(BurntHall x, Random random, int calls) throws IllegalAccessException {
        List<Method> face = new ArrayList<>();
        for (Method m : BurntHall.class.getDeclaredMethods()) {
            if ((m.getModifiers() & 1) != 0) face.add(m);
        }
        face.sort((a, b) -> a.getName().compareTo(b.getName()));
        for (int i = 0; i < calls; i++) {
            Method m = face.get(random.nextInt(face.size()));
            Object[] args = new Object[m.getParameterCount()];
            for (int k = 0; k < args.length; k++) {
                args[k] = random.nextInt(4) == 0 ? ODD[random.nextInt(ODD.length)] : random.nextInt(9) == 0 ? random.nextInt() : random.nextInt(5);
            }
            try {
                m.invoke(x, args);
                Due.is("answered", 1, 1);
            } catch (InvocationTargetException e) {
                Due.is(m.getName() + List.of(args) + " threw " + e.getCause(), 0, 1);
            }
        }
    }
}
