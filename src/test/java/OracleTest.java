import java.lang.reflect.Method;
import java.util.ArrayList;
import java.util.HashMap;
import java.util.List;
import java.util.Map;
import java.util.Random;

/** Drawn runs of calls, each answered by BurntHall and by the plain Oracle: both must agree. */
public final class OracleTest {
    private static final Map<String, Method> HALL = methods(BurntHall.class);
    private static final Map<String, Method> PLAIN = methods(Oracle.class);
    private static final String[] WORDS = {"a", "b", "sworn", "pages", "seal", "proof", "abcdefghijkl"};
    private static final String[] KINDS = {"deed", "copy", "index", "oath", "tax", "plate", "abstract"};

    private final Random random;
    private final BurntHall hall = new BurntHall();
    private final Oracle oracle = new Oracle();
    private final List<String> told = new ArrayList<>();
    private final int mostBurnts;
    private final int scale;
    private int calls;
    private boolean agree = true;

    private OracleTest(long seed) {
        random = new Random(seed);
        mostBurnts = 2 + random.nextInt(4);
        scale = new int[] {8, 40, 400, 2500}[random.nextInt(4)];
    }

    private static Map<String, Method> methods(Class<?> type) {
        Map<String, Method> map = new HashMap<>();
        for (Method m : type.getMethods()) map.put(m.getName(), m);
        return map;
    }

    private static long answer(Method m, Object target, int[] args) {
        Object[] boxed = new Object[args.length];
        for (int i = 0; i < args.length; i++) boxed[i] = args[i];
        try {
            return ((Number) m.invoke(target, boxed)).longValue();
        } catch (ReflectiveOperationException e) {
            throw new IllegalStateException(m.getName(), e);
        }
    }

    private long call(String name, int... args) {
        if (!agree || calls >= 512) return -1;
        calls++;
        long got = answer(HALL.get(name), hall, args);
        long want = answer(PLAIN.get(name), oracle, args);
        StringBuilder row = new StringBuilder(name).append('(');
        for (int i = 0; i < args.length; i++) row.append(i > 0 ? ", " : "").append(args[i]);
        row.append(") -> ").append(got);
        told.add(row.toString());
        if (got != want) {
            agree = false;
            System.out.println("a run whose last answer should be " + want + ":");
            for (String line : told) System.out.println("  " + line);
        }
        return got;
    }

    private void tape(String text) {
        call("end", 0);
        int at = 0;
        while (at < text.length() && agree) {
            int[] five = new int[5];
            for (int i = 0; i < 20; i++) {
                int c = at + i < text.length() ? text.charAt(at + i) : ' ';
                five[i / 4] = five[i / 4] << 8 | c & 255;
            }
            call("feed", five);
            at += 20;
        }
        if (random.nextInt(4) > 0 || text.length() % 20 != 0) call("end", text.length());
        told.add("  // tape: " + text);
    }

    private int below(int n) {
        return n <= 0 ? -1 : random.nextInt(n);
    }

    private int wild(int usual) {
        int[] odd = {-1, -2, usual + 1, 9999, 10000, Integer.MAX_VALUE, Integer.MIN_VALUE, 60, 80, 120, 0};
        return random.nextInt(60) == 0 ? odd[random.nextInt(odd.length)] : usual;
    }

    private int person() {
        return wild(below(oracle.persons.size()));
    }

    private int lotNumber() {
        return wild(below(oracle.lots.size()));
    }

    private int day() {
        return wild(random.nextInt(scale));
    }

    private int known() {
        return wild(random.nextInt(3) == 0 ? random.nextInt(scale) : oracle.clock);
    }

    private int orNone(int n) {
        return random.nextInt(8) == 0 ? -1 : n;
    }

    private String number(int most) {
        int n = random.nextInt(12) == 0 ? random.nextInt(12000) : random.nextInt(most + 1);
        return (random.nextInt(20) == 0 ? "0" : "") + n;
    }

    private String sum() {
        StringBuilder s = new StringBuilder();
        int terms = random.nextInt(15) == 0 ? 4 : 1 + random.nextInt(2);
        for (int i = 0; i < terms; i++) {
            s.append(i > 0 ? random.nextBoolean() ? "+" : " + " : "");
            s.append(random.nextInt(3) == 0 ? number(6) : WORDS[random.nextInt(WORDS.length)]);
        }
        return s.toString();
    }

    private String cond(int depth) {
        StringBuilder s = new StringBuilder();
        int parts = random.nextInt(30) == 0 ? 13 : 1 + random.nextInt(3);
        for (int i = 0; i < parts; i++) {
            s.append(i > 0 ? random.nextBoolean() ? " and " : " or " : "");
            for (int n = random.nextInt(4); n > 2; n = random.nextInt(4)) s.append("not ");
            if (depth < 6 && random.nextInt(3) == 0) {
                s.append('(').append(cond(depth + 1)).append(')');
            } else {
                s.append(sum());
                String[] how = {"", "", " above ", " below ", " is "};
                String h = how[random.nextInt(how.length)];
                if (!h.isEmpty()) s.append(h).append(sum());
            }
        }
        return s.toString();
    }

    private String clause() {
        String[] names = {"least", "sure", "doubt", "gap", "notice", "long", "years", "oaths", "fund"};
        int[] most = {6, 14, 9, 3, 12, 3, 2, 3, 50};
        if (random.nextInt(12) == 0) return "heirs;";
        if (random.nextInt(5) < 3) {
            String when = random.nextInt(3) == 0 ? " when " + cond(0) : "";
            return "proof " + KINDS[random.nextInt(KINDS.length)] + " " + number(12) + when + ";";
        }
        int i = random.nextInt(names.length);
        return names[i] + " " + number(most[i]) + ";";
    }

    private String spoil(String text) {
        if (text.isEmpty() || random.nextInt(3) > 0) return text;
        int at = random.nextInt(text.length());
        String[] odd = {"", ";", "(", ")", "+", "=", " ", "\n", "7", "zz", "A", "\u00e9", "when", "abcdefghijklm", "12345"};
        return text.substring(0, at) + odd[random.nextInt(odd.length)]
                + text.substring(Math.min(text.length(), at + random.nextInt(3)));
    }

    private void act() {
        StringBuilder s = new StringBuilder();
        int n = random.nextInt(40) == 0 ? 26 : random.nextInt(9);
        for (int i = 0; i < n; i++) s.append(clause()).append(random.nextInt(4) == 0 ? "\n" : random.nextBoolean() ? " " : "");
        String text = random.nextInt(3) == 0 ? spoil(s.toString()) : s.toString();
        tape(text.length() > 600 ? text.substring(0, 600) : text);
        call("act");
        call("fault", 0);
        call("fault", 1);
        call("rule", known(), random.nextInt(12));
    }

    /** Three TESTS of short WORDS, one of them within ( ). */
    private String soundCond() {
        String[] tests = {"a", "b", "sworn", "pages", "seal", "a + b above 2", "pages below seal", "a is b"};
        String[] joints = {" or ", " and "};
        String one = tests[random.nextInt(tests.length)];
        String two = tests[random.nextInt(tests.length)];
        String three = tests[random.nextInt(tests.length)];
        String not = random.nextInt(3) == 0 ? "not " : "";
        String within = not + "(" + two + joints[random.nextInt(2)] + three + ")";
        String joint = joints[random.nextInt(2)];
        return random.nextBoolean() ? one + joint + within : within + joint + one;
    }

    /** An ACT that gives most PAPERS a WEIGHT, so that much is SHOWN. */
    private void soundAct() {
        StringBuilder s = new StringBuilder();
        for (String kind : KINDS) s.append("proof ").append(kind).append(' ').append(1 + random.nextInt(9)).append(';');
        s.append("proof copy 12 when sworn; proof oath 5 when pages above 2;");
        for (int i = random.nextInt(4); i > 0; i--) {
            s.append("proof ").append(KINDS[random.nextInt(KINDS.length)]).append(' ').append(10 + random.nextInt(9));
            s.append(" when ").append(soundCond()).append(';');
        }
        s.append("sure ").append(3 + random.nextInt(12)).append("; doubt ").append(random.nextInt(9)).append(';');
        s.append("notice ").append(random.nextInt(4)).append("; years 1; long ").append(1 + random.nextInt(3)).append(';');
        if (random.nextBoolean()) s.append("heirs;");
        if (random.nextBoolean()) s.append("fund ").append(random.nextInt(40)).append(';');
        if (random.nextBoolean()) s.append("gap ").append(random.nextInt(4)).append(';');
        tape(s.toString());
        call("act");
    }

    private void bounds() {
        StringBuilder s = new StringBuilder();
        String ways = "nesw";
        int kind = random.nextInt(4);
        if (kind == 0) {
            int a = 1 + random.nextInt(8);
            int b = 1 + random.nextInt(8);
            int turn = random.nextInt(4);
            int hand = random.nextBoolean() ? 1 : 3;
            for (int i = 0; i < 4; i++) {
                s.append(ways.charAt((turn + hand * i) % 4)).append(i % 2 == 0 ? a : b).append(';');
            }
        } else if (kind == 1) {
            s.append(steps());
        } else {
            int n = 1 + random.nextInt(random.nextInt(6) == 0 ? 14 : 6);
            for (int i = 0; i < n; i++) {
                s.append(ways.charAt(random.nextInt(4))).append(random.nextBoolean() ? " " : "")
                        .append(1 + random.nextInt(random.nextInt(5) == 0 ? 62 : 5)).append("; ");
            }
        }
        tape(random.nextInt(4) == 0 ? spoil(s.toString()) : s.toString());
        int l = lotNumber();
        call("bounds", l, wild(random.nextInt(12)), wild(random.nextInt(12)));
        call("fault", 0);
        call("fault", 1);
        call("error", l);
        call("area", l);
        if (random.nextBoolean()) call("mend", l);
        call("area", l);
        call("about", l, 10 + random.nextInt(6));
        call("strip", l, lotNumber());
    }

    /** A stair: lines that follow one another go crosswise, and the last two lead back. */
    private String steps() {
        StringBuilder s = new StringBuilder();
        int x = 0;
        int y = 0;
        int pairs = 1 + random.nextInt(4);
        for (int i = 0; i < pairs; i++) {
            int a = 1 + random.nextInt(5);
            int b = 1 + random.nextInt(5);
            boolean west = random.nextInt(4) == 0;
            boolean south = random.nextInt(4) == 0;
            s.append(west ? 'w' : 'e').append(a).append(';').append(south ? 's' : 'n').append(b).append(';');
            x += west ? -a : a;
            y += south ? -b : b;
        }
        if (x != 0) s.append(x > 0 ? 'w' : 'e').append(Math.abs(x)).append(';');
        if (y != 0) s.append(y > 0 ? 's' : 'n').append(Math.abs(y)).append(';');
        return s.toString();
    }

    private void paper() {
        StringBuilder marks = new StringBuilder();
        // Mostly other WORDS each time, so that many MARKS stand and CONDS hold by more than one of them.
        int first = random.nextInt(WORDS.length);
        for (int i = random.nextInt(7); i > 0; i--) {
            marks.append(WORDS[random.nextInt(12) == 0 ? random.nextInt(WORDS.length) : (first + i) % WORDS.length]);
            if (random.nextBoolean()) marks.append(random.nextBoolean() ? "=" : " = ").append(number(5));
            marks.append(random.nextBoolean() ? ";" : " ; ");
        }
        tape(random.nextInt(6) == 0 ? spoil(marks.toString()) : marks.toString());
        int from = day();
        int to = random.nextInt(12) == 0 ? day() : wild(Math.min(9999, Math.abs(from % 10000) + random.nextInt(scale)));
        int b = random.nextInt(5) == 0 ? -1 : wild(below(oracle.burnts));
        int k = (int) call("paper", wild(random.nextInt(3) == 0 ? 4 : random.nextInt(7)), b, orNone(person()), orNone(person()),
                orNone(lotNumber()), from, to);
        if (k >= 0 && random.nextInt(3) == 0) {
            call("written", k, person(), day(), wild(random.nextInt(2)), wild(random.nextInt(2)));
        }
        if (k >= 0) call("weight", k, known());
    }

    private void people() {
        switch (random.nextInt(6)) {
            case 0: call("person", random.nextInt(4) > 0 ? 0 : day()); break;
            case 1: call("dead", person(), day()); break;
            case 2: call("same", person(), person()); break;
            case 3: call("apart", person(), person()); break;
            case 4: call("child", person(), person()); break;
            default:
                call("deadOn", person(), known());
                call("one", person(), person(), known());
                call("names", known());
        }
    }

    private void lots() {
        switch (random.nextInt(4)) {
            case 0: call("lot", wild(1 + random.nextInt(500)), random.nextInt(3) > 0 ? 0 : day()); break;
            case 1: call("split", lotNumber(), day(), wild(2 + random.nextInt(3)), feet(), feet(), feet(), feet()); break;
            case 2:
                call("join", wild(2 + random.nextInt(2)), lotNumber(), lotNumber(), lotNumber(), lotNumber(), day(), feet());
                break;
            default:
                call("about", lotNumber(), random.nextInt(25) - 2);
                call("line", lotNumber());
        }
        if (random.nextInt(3) == 0) call("root", lotNumber(), person(), random.nextInt(2) == 0 ? 0 : day());
    }

    private int feet() {
        return wild(1 + random.nextInt(200));
    }

    private void evidence() {
        int b = wild(below(oracle.burnts));
        int known = known();
        for (int what = -1; what < 11; what++) {
            if (random.nextInt(3) == 0) call("shown", b, known, what);
        }
        if (!oracle.papers.isEmpty()) call("cant", wild(below(oracle.papers.size())), known());
        call("pages", wild(random.nextInt(3) == 0 ? 1 + random.nextInt(40) : 1 + random.nextInt(3)));
    }

    private void chains() {
        int l = lotNumber();
        int p = person();
        int known = known();
        call("chain", l, p, known);
        for (int what : new int[] {0, 1, 2, 3, 10, 11, 12, 13, -1, 4, 18}) {
            if (random.nextInt(2) == 0) call("linked", what);
        }
        StringBuilder row = new StringBuilder();
        if (random.nextBoolean() && oracle.told != null) {
            for (int b : oracle.told.links) row.append((char) (48 + b));
        } else {
            for (int i = random.nextInt(4); i > 0; i--) row.append((char) (48 + random.nextInt(mostBurnts)));
        }
        tape(row.toString());
        call("judge", l, p, known);
        call("held", l, p, wild(known / 365), known);
        if (random.nextInt(3) == 0) call("held", lotNumber(), person(), wild(random.nextInt(28)), known());
    }

    private void mortgages() {
        int day = day();
        int n = oracle.mortgages.size();
        switch (random.nextInt(3)) {
            case 0: call("mortgage", lotNumber(), person(), wild(5), day, wild(Math.min(9999, Math.abs(day % 9000) + random.nextInt(40)))); break;
            case 1: call("paid", wild(below(n)), day()); break;
            default:
                call("stands", wild(below(n)), wild(random.nextInt(scale + 800)), known());
                call("rank", wild(below(n)), day(), known());
        }
    }

    private void claims() {
        int n = oracle.claims.size();
        switch (random.nextInt(5)) {
            case 0:
            case 1: call("claim", person(), lotNumber()); break;
            case 2: call("sit", lotNumber()); break;
            case 3:
                call("worth", wild(below(n)));
                for (int what = -1; what < 6; what++) call("claimed", wild(below(n)), what);
                for (int what = -1; what < 4; what++) call("ruled", lotNumber(), what);
                break;
            default:
                if (random.nextInt(2) == 0) call("fund", wild(random.nextInt(60)));
                call("open", random.nextInt(3) == 0 || oracle.rulings.isEmpty() ? lotNumber() : oracle.rulings.keySet().iterator().next());
        }
        call("count", random.nextInt(26) - 1);
    }

    private void places() {
        int n = oracle.places.size();
        if (random.nextBoolean()) call("place", wild(1 + random.nextInt(9)), wild(below(oracle.burnts)), wild(1 + random.nextInt(12)));
        call("settles", random.nextInt(6) == 0 ? wild(1 << n) : random.nextInt(1 << n));
        call("next", wild(random.nextInt(40)));
        call("looked", random.nextInt(4) - 1);
        call("looked", 0);
    }

    private void start() {
        for (int i = 2 + random.nextInt(5); i > 0; i--) call("person", random.nextInt(6) > 0 ? 0 : day());
        for (int i = 1 + random.nextInt(3); i > 0; i--) {
            int l = (int) call("lot", 1 + random.nextInt(300), 0);
            call("root", l, person(), random.nextInt(4));
        }
        for (int i = 1 + random.nextInt(mostBurnts); i > 0; i--) call("burnt");
        if (random.nextInt(5) > 0) soundAct();
    }

    /** A few persons and LOTS, PAPERS that mostly fit together: long CHAINS, DOUBT, LOTS OPENED again. */
    private void story() {
        int persons = 4 + random.nextInt(3);
        for (int i = 0; i < persons; i++) call("person", 0);
        call("lot", 100, 0);
        call("root", 0, 0, 0);
        if (random.nextBoolean()) {
            call("lot", 80, 0);
            call("root", 1, random.nextInt(2), random.nextInt(20));
            if (random.nextBoolean()) call("join", 2, 0, 1, 0, 0, 5000 + random.nextInt(100), 180);
            if (random.nextBoolean()) call("split", 0, 20 + random.nextInt(20), 2, 50, 50, 0, 0);
        }
        int burnts = 3 + random.nextInt(4);
        for (int i = 0; i < burnts; i++) call("burnt");
        soundAct();
        for (int i = 0; i < burnts * 2; i++) likelyPaper(burnts);
        call("pass", 365 + random.nextInt(60));
        for (int round = 0; round < 30 && agree; round++) storyRound(burnts);
    }

    private void storyRound(int burnts) {
        int p = person();
        int l = lotNumber();
        call("chain", l, p, oracle.clock);
        for (int what : new int[] {0, 1, 2, 3, 10, 11, 12, 13, 14}) call("linked", what);
        if (random.nextInt(3) == 0 && oracle.told != null) {
            StringBuilder row = new StringBuilder();
            for (int b : oracle.told.links) row.append((char) (48 + b));
            tape(row.toString());
            call("judge", l, p, oracle.clock);
        }
        if (random.nextInt(2) == 0) call("claim", p, l);
        if (random.nextInt(3) == 0) call("pass", 1 + random.nextInt(random.nextInt(5) == 0 ? 400 : 20));
        call("worth", below(oracle.claims.size()));
        call("sit", l);
        call("ruled", l, 2);
        if (random.nextInt(3) == 0) likelyPaper(burnts);
        if (random.nextInt(8) == 0) call("same", person(), person());
        if (random.nextInt(6) == 0) call("child", person(), person());
        if (random.nextInt(6) == 0) call("dead", person(), random.nextInt(400));
        if (random.nextInt(12) == 0) soundAct();
        if (random.nextInt(6) == 0) call("fund", 1 + random.nextInt(40));
        for (int r : new ArrayList<>(oracle.rulings.keySet())) {
            if (random.nextBoolean()) call("open", r);
            call("claimed", oracle.rulings.containsKey(r) ? oracle.rulings.get(r).claim : 0, 3 + random.nextInt(2));
        }
        if (random.nextInt(3) == 0) places();
        call("count", 20 + random.nextInt(4));
    }

    private void likelyPaper(int burnts) {
        int b = random.nextInt(burnts);
        Random fixed = new Random(31L * b + mostBurnts);
        int gave = random.nextInt(6) == 0 ? person() : fixed.nextInt(oracle.persons.size());
        int got = random.nextInt(6) == 0 ? person() : fixed.nextInt(oracle.persons.size());
        int l = random.nextInt(6) == 0 ? lotNumber() : 0;
        int from = fixed.nextInt(300) + random.nextInt(20);
        if (random.nextInt(3) == 0) tape("sworn; pages=" + random.nextInt(5) + ";");
        if (random.nextInt(6) == 0) {
            int year = oracle.clock / 365;
            call("paper", 4, -1, -1, got, l, Math.max(0, year - random.nextInt(2)) * 365, Math.min(9999, oracle.clock + 3));
        } else {
            call("paper", random.nextInt(7), b, gave, got, l, from, from + 20 + random.nextInt(200));
        }
    }

    private boolean run() {
        if (random.nextBoolean()) story(); else start();
        int[] weights = new int[9];
        for (int i = 0; i < weights.length; i++) weights[i] = 1 + random.nextInt(6);
        while (agree && calls < 512) {
            switch (draw(weights)) {
                case 0: people(); break;
                case 1: lots(); break;
                case 2: if (random.nextInt(4) == 0) act(); break;
                case 3: if (random.nextInt(4) == 0) bounds(); break;
                case 4: paper(); break;
                case 5: evidence(); if (random.nextInt(3) == 0 && oracle.burnts < mostBurnts) call("burnt"); break;
                case 6: chains(); break;
                case 7: mortgages(); call("pass", random.nextInt(8) == 0 ? wild(366) : 1 + random.nextInt(Math.max(1, scale / 40))); break;
                default: claims(); if (random.nextInt(3) == 0) places();
            }
        }
        return agree;
    }

    private int draw(int[] weights) {
        int sum = 0;
        for (int w : weights) sum += w;
        int n = random.nextInt(sum);
        for (int i = 0; i < weights.length; i++) {
            n -= weights[i];
            if (n < 0) return i;
        }
        return 0;
    }

    public static void main(String[] args) {
        int runs = args.length > 0 ? Integer.parseInt(args[0]) : 250;
        long first = args.length > 1 ? Long.parseLong(args[1]) : 1;
        Map<String, Integer> seen = new HashMap<>();
        for (int i = 0; i < runs; i++) {
            OracleTest test = new OracleTest(first + i);
            if (!test.run()) {
                System.out.println("seed " + (first + i));
                System.exit(1);
            }
            if (args.length > 2) {
                for (String row : test.told) seen.merge(row.replaceAll("\\(.*->", ""), 1, Integer::sum);
            }
        }
        new java.util.TreeMap<>(seen).forEach((row, n) -> System.out.println(row + ": " + n));
        System.out.println(runs + " drawn runs agree");
    }
}
