import java.util.ArrayList;
import java.util.Arrays;
import java.util.HashMap;
import java.util.HashSet;
import java.util.List;
import java.util.Map;
import java.util.Set;
import java.util.TreeMap;

/** The document told again in the plainest way: nothing is kept ready, all ways are tried. */
public final class Oracle {
    static final int NONE = -1, RANGE = -2, FULL = -3, STATE = -4;

    record Telling(String kind, int p, int q, int known) { }
    static final class Lot {
        int feet, from, end = NONE, splitLack, joinLack, x, y, rootHolder = NONE, rootDay;
        List<Integer> parents = new ArrayList<>();
        List<int[]> lines = new ArrayList<>();
    }
    static final class Paper {
        int kind, b, gave, got, lot, from, to, known, hand = NONE, day, book, page;
        Map<String, Integer> marks = new HashMap<>();
    }
    static final class Mortgage {
        int lot, day, till, paid = NONE, paidKnown;
    }
    static final class Claim {
        int p, lot, noticed, state, pounds;
    }
    static final class Ruling {
        int claim, day, years;
    }
    static final class Best {
        int gaps, weakest, root;
        List<Integer> links;
    }
    interface Cond {
        boolean holds(Map<String, Integer> marks);
    }
    interface Sum {
        int of(Map<String, Integer> marks);
    }
    record Proof(int kind, int weight, Cond cond) { }
    static final class Law {
        int day, clauses;
        Map<String, Integer> told = new HashMap<>();
        List<Proof> proofs = new ArrayList<>();

        int get(String name) {
            return told.getOrDefault(name, DEFAULTS.get(name));
        }
    }
    static final class Fault extends RuntimeException {
        final int kind, place;

        Fault(int kind, int place) {
            this.kind = kind;
            this.place = place;
        }
    }
    record Token(char kind, String text, int place) { }

    static final Map<String, Integer> DEFAULTS = Map.of("least", 1, "sure", 20, "doubt", 8, "gap", 2,
            "notice", 30, "long", 20, "years", 10, "oaths", 2, "heirs", 0, "fund", 0);
    static final List<String> RULES = List.of("least", "sure", "doubt", "gap", "notice", "long", "years",
            "oaths", "heirs", "fund");
    static final List<String> KINDS = List.of("deed", "copy", "index", "oath", "tax", "plate", "abstract");
    static final Set<String> RESERVED = Set.of("or", "and", "not", "above", "below", "is", "when");

    String tape = "";
    int clock, pageHolds = 20, burnts, coin, faultKind, faultPlace = NONE;
    List<Integer> persons = new ArrayList<>();
    List<Telling> tellings = new ArrayList<>();
    List<Lot> lots = new ArrayList<>();
    List<Law> laws = new ArrayList<>();
    List<Paper> papers = new ArrayList<>();
    List<Mortgage> mortgages = new ArrayList<>();
    List<Claim> claims = new ArrayList<>();
    Map<Integer, Ruling> rulings = new TreeMap<>();
    List<int[]> places = new ArrayList<>();
    Best told;
    int[] looked;

    static boolean day(int d) {
        return 0 <= d && d <= 9999;
    }

    static boolean in(int i, List<?> list) {
        return 0 <= i && i < list.size();
    }

    public int feed(int a, int b, int c, int d, int e) {
        if (tape.length() + 20 > 1000) return FULL;
        for (int n : new int[] {a, b, c, d, e}) {
            for (int s = 3; s >= 0; s--) tape += (char) (n >>> 8 * s & 255);
        }
        return tape.length();
    }

    public int end(int n) {
        if (n < 0 || n > tape.length()) return NONE;
        tape = tape.substring(0, n);
        return n;
    }

    String take() {
        String text = tape;
        tape = "";
        return text;
    }

    public int pass(int n) {
        if (n < 1 || n > 5000 || clock + n > 9999) return RANGE;
        return clock += n;
    }

    public int person(int from) {
        if (!day(from)) return RANGE;
        if (persons.size() == 80) return FULL;
        persons.add(from);
        return persons.size() - 1;
    }

    int tell(String kind, int p, int q) {
        if (tellings.size() == 400) return FULL;
        tellings.add(new Telling(kind, p, q, clock));
        return tellings.size();
    }

    public int dead(int p, int from) {
        return in(p, persons) && day(from) ? tell("dead", p, from) : RANGE;
    }

    int two(String kind, int p, int q) {
        return in(p, persons) && in(q, persons) && p != q ? tell(kind, p, q) : RANGE;
    }

    public int same(int p, int q) {
        return two("same", p, q);
    }

    public int apart(int p, int q) {
        return two("apart", p, q);
    }

    public int child(int p, int q) {
        return two("child", p, q);
    }

    Set<Integer> ones(int p, int known) {
        Set<Integer> set = new HashSet<>(Set.of(p));
        for (boolean more = true; more; ) {
            more = false;
            for (Telling t : tellings) {
                if (t.kind.equals("same") && t.known <= known && set.contains(t.p) != set.contains(t.q)) {
                    set.add(t.p);
                    set.add(t.q);
                    more = true;
                }
            }
        }
        return set;
    }

    boolean isOne(int p, int q, int known) {
        return ones(p, known).contains(q);
    }

    int death(int p, int known) {
        Set<Integer> set = ones(p, known);
        return tellings.stream().filter(t -> t.kind.equals("dead") && t.known <= known && set.contains(t.p))
                .mapToInt(t -> t.q).min().orElse(NONE);
    }

    boolean isChild(int parent, int q, int known) {
        Set<Integer> of = ones(parent, known);
        Set<Integer> them = ones(q, known);
        return tellings.stream().anyMatch(t -> t.kind.equals("child") && t.known <= known
                && of.contains(t.p) && them.contains(t.q));
    }

    public int deadOn(int p, int known) {
        return in(p, persons) && day(known) ? death(p, known) : RANGE;
    }

    public int one(int p, int q, int known) {
        return in(p, persons) && in(q, persons) && day(known) ? isOne(p, q, known) ? 1 : 0 : RANGE;
    }

    public int names(int known) {
        if (!day(known)) return RANGE;
        return (int) tellings.stream().filter(t -> t.kind.equals("apart") && t.known <= known
                && isOne(t.p, t.q, known)).count();
    }

    static boolean feet(int n) {
        return 1 <= n && n <= 999999;
    }

    int addLot(int feet, int day, List<Integer> parents) {
        Lot lot = new Lot();
        lot.feet = feet;
        lot.from = day;
        lot.parents = parents;
        lots.add(lot);
        return lots.size() - 1;
    }

    public int lot(int feet, int day) {
        if (!feet(feet) || !day(day)) return RANGE;
        if (lots.size() == 60) return FULL;
        return addLot(feet, day, List.of());
    }

    boolean there(int l, int day) {
        Lot lot = lots.get(l);
        return lot.from <= day && (lot.end == NONE || lot.end > day);
    }

    public int split(int l, int day, int n, int a, int b, int c, int d) {
        if (!in(l, lots) || !day(day) || n < 2 || n > 4) return RANGE;
        int[] feet = {a, b, c, d};
        for (int i = 0; i < n; i++) if (!feet(feet[i])) return RANGE;
        if (!there(l, day) || lots.get(l).end != NONE) return STATE;
        if (lots.size() + n > 60) return FULL;
        int first = lots.size();
        int lack = lots.get(l).feet;
        for (int i = 0; i < n; i++) {
            addLot(feet[i], day, List.of(l));
            lack -= feet[i];
        }
        lots.get(l).end = day;
        lots.get(l).splitLack = lack;
        return first;
    }

    public int join(int n, int a, int b, int c, int d, int day, int feet) {
        if (n < 2 || n > 4 || !day(day) || !feet(feet)) return RANGE;
        List<Integer> them = new ArrayList<>(List.of(a, b, c, d).subList(0, n));
        if (new HashSet<>(them).size() < n || !them.stream().allMatch(l -> in(l, lots))) return RANGE;
        if (!them.stream().allMatch(l -> there(l, day) && lots.get(l).end == NONE)) return STATE;
        if (lots.size() == 60) return FULL;
        int lack = -feet;
        for (int l : them) {
            lots.get(l).end = day;
            lack += lots.get(l).feet;
        }
        int made = addLot(feet, day, them);
        lots.get(made).joinLack = lack;
        return made;
    }

    public int about(int l, int what) {
        if (!in(l, lots)) return -9;
        Lot lot = lots.get(l);
        int[] plain = {lot.feet, lot.from, lot.end, lot.splitLack, lot.joinLack, lot.lines.size(), lot.x, lot.y};
        if (0 <= what && what < plain.length) return plain[what];
        return in(what - 10, lot.lines) ? lot.lines.get(what - 10)[0] * 100000 + lot.lines.get(what - 10)[1] : -9;
    }

    public long line(int l) {
        if (!in(l, lots)) return 0;
        long bits = 1L << l;
        for (int p : lots.get(l).parents) bits |= line(p);
        return bits;
    }

    boolean ofLine(int o, int l) {
        return (line(l) >> o & 1) != 0;
    }

    static List<Token> tokens(String text) {
        List<Token> list = new ArrayList<>();
        int i = 0;
        while (i < text.length()) {
            char c = text.charAt(i);
            int from = i;
            i++;
            if (c == ' ' || c == '\n') continue;
            if (c >= 'a' && c <= 'z') {
                while (i < text.length() && text.charAt(i) >= 'a' && text.charAt(i) <= 'z') i++;
                list.add(new Token(i - from > 12 ? '?' : 'w', text.substring(from, i), from));
            } else if (c >= '0' && c <= '9') {
                while (i < text.length() && text.charAt(i) >= '0' && text.charAt(i) <= '9') i++;
                list.add(new Token(i - from > 4 ? '?' : 'n', text.substring(from, i), from));
            } else {
                list.add(new Token(";=()+".indexOf(c) >= 0 ? c : '?', "" + c, from));
            }
        }
        list.add(new Token('$', "", text.length()));
        return list;
    }

    /** A reader of TOKENS that throws the FAULT it comes to. */
    static final class Reader {
        final List<Token> list;
        int at, tests;

        Reader(String text) {
            list = tokens(text);
        }

        Token now() {
            return list.get(at);
        }

        Fault fault(int kind) {
            return new Fault(kind, now().place);
        }

        boolean word(String w) {
            return now().kind == 'w' && now().text.equals(w);
        }

        boolean sign(char c) {
            return now().kind == c;
        }

        void need(char c) {
            if (!sign(c)) throw fault(1);
            at++;
        }

        int number(int low, int high) {
            if (now().kind != 'n') throw fault(1);
            int n = Integer.parseInt(now().text);
            if (n < low || n > high) throw fault(2);
            at++;
            return n;
        }

        Law law() {
            Law law = new Law();
            while (!sign('$')) {
                clause(law);
                need(';');
                law.clauses++;
            }
            return law;
        }

        void clause(Law law) {
            if (now().kind != 'w') throw fault(1);
            String name = now().text;
            if (name.equals("proof")) {
                if (law.proofs.size() == 24) throw fault(4);
                at++;
                if (now().kind != 'w' || !KINDS.contains(now().text)) throw fault(1);
                int kind = KINDS.indexOf(now().text);
                at++;
                int weight = number(0, 99);
                Cond cond = marks -> true;
                if (word("when")) {
                    at++;
                    tests = 0;
                    cond = cond(0);
                }
                law.proofs.add(new Proof(kind, weight, cond));
                return;
            }
            if (!RULES.contains(name)) throw fault(1);
            if (law.told.containsKey(name)) throw fault(3);
            at++;
            int low = name.equals("long") || name.equals("years") ? 1 : 0;
            int high = switch (name) {
                case "gap", "oaths" -> 20;
                case "long", "years" -> 99;
                case "fund" -> 9999;
                default -> 999;
            };
            law.told.put(name, name.equals("heirs") ? 1 : number(low, high));
        }

        Cond cond(int open) {
            Cond left = all(open);
            while (word("or")) {
                at++;
                Cond a = left;
                Cond b = all(open);
                left = m -> a.holds(m) || b.holds(m);
            }
            return left;
        }

        Cond all(int open) {
            Cond left = single(open);
            while (word("and")) {
                at++;
                Cond a = left;
                Cond b = single(open);
                left = m -> a.holds(m) && b.holds(m);
            }
            return left;
        }

        Cond single(int open) {
            if (word("not")) {
                at++;
                Cond a = single(open);
                return m -> !a.holds(m);
            }
            if (sign('(')) {
                if (open == 5) throw fault(4);
                at++;
                Cond a = cond(open + 1);
                need(')');
                return a;
            }
            needTerm();
            if (tests == 12) throw fault(4);
            tests++;
            Sum a = sum();
            if (word("above") || word("below") || word("is")) {
                String how = now().text;
                at++;
                Sum b = sum();
                return m -> how.equals("above") ? a.of(m) > b.of(m)
                        : how.equals("below") ? a.of(m) < b.of(m) : a.of(m) == b.of(m);
            }
            return m -> a.of(m) > 0;
        }

        void needTerm() {
            if (now().kind != 'n' && (now().kind != 'w' || RESERVED.contains(now().text))) throw fault(1);
        }

        Sum sum() {
            List<Token> terms = new ArrayList<>();
            for (;;) {
                needTerm();
                if (terms.size() == 3) throw fault(4);
                terms.add(now());
                at++;
                if (!sign('+')) break;
                at++;
            }
            return m -> terms.stream().mapToInt(t -> t.kind == 'n' ? Integer.parseInt(t.text)
                    : m.getOrDefault(t.text, 0)).sum();
        }

        List<int[]> lines() {
            List<int[]> lines = new ArrayList<>();
            do {
                int way = now().kind == 'w' && now().text.length() == 1 ? "nesw".indexOf(now().text) : -1;
                if (way < 0) throw fault(1);
                if (lines.size() == 12) throw fault(4);
                at++;
                lines.add(new int[] {way, number(1, 60)});
                need(';');
            } while (!sign('$'));
            return lines;
        }

        Map<String, Integer> marks() {
            Map<String, Integer> marks = new HashMap<>();
            while (!sign('$')) {
                if (now().kind != 'w') throw fault(1);
                String w = now().text;
                at++;
                int n = 1;
                if (sign('=')) {
                    at++;
                    n = number(0, 9999);
                }
                need(';');
                if (marks.put(w, n) != null || marks.size() > 12) throw fault(1);
            }
            return marks;
        }
    }

    public int bounds(int l, int x, int y) {
        String text = take();
        if (!in(l, lots) || x < 0 || x > 99 || y < 0 || y > 99) return RANGE;
        faultKind = 0;
        faultPlace = NONE;
        try {
            lots.get(l).lines = new Reader(text).lines();
        } catch (Fault f) {
            faultKind = f.kind;
            faultPlace = f.place;
            return NONE;
        }
        lots.get(l).x = x;
        lots.get(l).y = y;
        return lots.get(l).lines.size();
    }

    static int[] step(int way) {
        return new int[][] {{0, 1}, {1, 0}, {0, -1}, {-1, 0}}[way];
    }

    static int[] miss(List<int[]> lines) {
        int[] miss = new int[2];
        for (int[] line : lines) {
            miss[0] += step(line[0])[0] * line[1];
            miss[1] += step(line[0])[1] * line[1];
        }
        return miss;
    }

    int without(int l) {
        return !in(l, lots) ? RANGE : lots.get(l).lines.isEmpty() ? STATE : 0;
    }

    public int error(int l) {
        if (without(l) < 0) return without(l);
        int[] miss = miss(lots.get(l).lines);
        return Math.abs(miss[0]) + Math.abs(miss[1]);
    }

    /** Tries every change of one line an axis; LotsTest tries all lengths for small BOUNDS. */
    public int mend(int l) {
        if (without(l) < 0) return without(l);
        List<int[]> lines = lots.get(l).lines;
        int sum = error(l);
        int[] miss = miss(lines);
        int need = (miss[0] != 0 ? 1 : 0) + (miss[1] != 0 ? 1 : 0);
        int[] best = null;
        for (int i = 0; i < lines.size(); i++) {
            for (int j = i; j < lines.size(); j++) {
                for (int a = -sum; a <= sum; a++) {
                    for (int b : new int[] {sum - Math.abs(a), Math.abs(a) - sum}) {
                        int[] row = lines.stream().mapToInt(x -> x[1]).toArray();
                        row[i] += a;
                        if (i != j) row[j] += b; else if (b != 0) continue;
                        int changed = 0;
                        List<int[]> now = new ArrayList<>();
                        boolean good = true;
                        for (int k = 0; k < row.length; k++) {
                            good &= row[k] >= 1;
                            changed += row[k] != lines.get(k)[1] ? 1 : 0;
                            now.add(new int[] {lines.get(k)[0], row[k]});
                        }
                        int[] left = miss(now);
                        if (good && left[0] == 0 && left[1] == 0 && changed == need
                                && (best == null || Arrays.compare(row, best) < 0)) best = row;
                    }
                }
            }
        }
        if (best == null) return NONE;
        for (int k = 0; k < best.length; k++) lines.get(k)[1] = best[k];
        return sum;
    }

    /** The unit squares within the BOUNDS; null without an AREA. */
    Set<Long> squares(int l) {
        Lot lot = lots.get(l);
        int n = lot.lines.size();
        int[] miss = miss(lot.lines);
        if (miss[0] != 0 || miss[1] != 0) return null;
        List<Set<Long>> points = new ArrayList<>();
        Map<Long, Integer> walls = new HashMap<>();
        int x = lot.x, y = lot.y, lowX = x, highX = x, lowY = y, highY = y;
        for (int i = 0; i < n; i++) {
            int[] line = lot.lines.get(i);
            if (line[0] % 2 == lot.lines.get((i + 1) % n)[0] % 2) return null;
            Set<Long> own = new HashSet<>();
            own.add(key(x, y));
            for (int k = 0; k < line[1]; k++) {
                int wall = line[0] == 0 ? y : y - 1;
                if (line[0] % 2 == 0) walls.merge(key(x, wall), 1, Integer::sum);
                x += step(line[0])[0];
                y += step(line[0])[1];
                own.add(key(x, y));
            }
            points.add(own);
            lowX = Math.min(lowX, x);
            highX = Math.max(highX, x);
            lowY = Math.min(lowY, y);
            highY = Math.max(highY, y);
        }
        for (int i = 0; i < n; i++) {
            for (int j = i + 1; j < n; j++) {
                boolean follow = j == i + 1 || i == 0 && j == n - 1;
                Set<Long> both = new HashSet<>(points.get(i));
                both.retainAll(points.get(j));
                if (both.size() > (follow ? 1 : 0)) return null;
            }
        }
        Set<Long> inside = new HashSet<>();
        for (int row = lowY; row < highY; row++) {
            boolean in = false;
            for (int column = lowX; column < highX; column++) {
                if (walls.getOrDefault(key(column, row), 0) % 2 == 1) in = !in;
                if (in) inside.add(key(column, row));
            }
        }
        return inside;
    }

    static long key(int x, int y) {
        return (x + 100000L) * 1000000L + y + 100000L;
    }

    public int area(int l) {
        if (without(l) < 0) return without(l);
        Set<Long> squares = squares(l);
        return squares == null ? NONE : squares.size();
    }

    public int strip(int l, int o) {
        if (!in(l, lots) || !in(o, lots) || l == o) return RANGE;
        if (lots.get(l).lines.isEmpty() || lots.get(o).lines.isEmpty()) return STATE;
        Set<Long> a = squares(l);
        Set<Long> b = squares(o);
        if (a == null || b == null) return NONE;
        a.retainAll(b);
        return a.size();
    }

    public int act() {
        faultKind = 0;
        faultPlace = NONE;
        Law law;
        try {
            law = new Reader(take()).law();
        } catch (Fault f) {
            faultKind = f.kind;
            faultPlace = f.place;
            return NONE;
        }
        if (laws.size() == 8) return FULL;
        law.day = clock;
        laws.add(law);
        return law.clauses;
    }

    public int fault(int what) {
        return what == 0 ? faultKind : what == 1 ? faultPlace : NONE;
    }

    Law law(int day) {
        Law force = new Law();
        for (Law law : laws) if (law.day <= day) force = law;
        return force;
    }

    public int rule(int day, int what) {
        if (!day(day) || what < 0 || what > 10) return -9;
        return what == 10 ? law(day).proofs.size() : law(day).get(RULES.get(what));
    }

    public int burnt() {
        return burnts == 30 ? FULL : burnts++;
    }

    public int paper(int kind, int b, int gave, int got, int l, int from, int to) {
        String text = take();
        if (kind < 0 || kind > 6 || b < -1 || b >= burnts || gave != -1 && !in(gave, persons)
                || got != -1 && !in(got, persons) || l != -1 && !in(l, lots)
                || !day(from) || !day(to) || from > to) return RANGE;
        Paper paper = new Paper();
        try {
            paper.marks = new Reader(text).marks();
        } catch (Fault f) {
            return NONE;
        }
        if (papers.size() == 120) return FULL;
        paper.kind = kind;
        paper.b = b;
        paper.gave = gave;
        paper.got = got;
        paper.lot = l;
        paper.from = from;
        paper.to = to;
        paper.known = clock;
        papers.add(paper);
        return papers.size() - 1;
    }

    public int written(int k, int hand, int day, int book, int page) {
        if (!in(k, papers) || !in(hand, persons) || !day(day) || book < 0 || book > 9 || page < 0 || page > 99) {
            return RANGE;
        }
        Paper p = papers.get(k);
        if (p.hand != NONE) return STATE;
        p.hand = hand;
        p.day = day;
        p.book = book;
        p.page = page;
        return 1;
    }

    public int pages(int n) {
        if (n < 1 || n > 40) return RANGE;
        int was = pageHolds;
        pageHolds = n;
        return was;
    }

    int weigh(Paper p, int day) {
        int weight = 0;
        for (Proof proof : law(day).proofs) if (proof.kind == p.kind && proof.cond.holds(p.marks)) weight = proof.weight;
        return weight;
    }

    public int weight(int k, int day) {
        return in(k, papers) && day(day) ? weigh(papers.get(k), day) : RANGE;
    }

    boolean amiss(int p, int first, int last, int known) {
        return p != NONE && (death(p, known) != NONE && death(p, known) < first || persons.get(p) > last);
    }

    public int cant(int k, int known) {
        if (!in(k, papers) || !day(known)) return RANGE;
        Paper p = papers.get(k);
        if (amiss(p.hand, p.day, p.day, known)) return 1;
        if (p.lot != NONE) {
            boolean ever = false;
            for (int d = p.from; d <= p.to; d++) ever |= there(p.lot, d);
            if (!ever) return 2;
        }
        if (amiss(p.gave, p.from, p.to, known)) return 3;
        if (amiss(p.got, p.from, p.to, known)) return 4;
        if (p.hand != NONE) {
            int before = 0;
            for (Paper q : papers.subList(0, k)) {
                if (q.hand != NONE && q.book == p.book && q.page == p.page && q.known <= known) before++;
            }
            if (before >= pageHolds) return 5;
        }
        return 0;
    }

    int[] facts(int b, int known) {
        Law law = law(known);
        int[] facts = {-1, -1, -1, 0, 9999, 0, 0, 0, 0, 0};
        List<Paper> list = new ArrayList<>();
        for (int k = 0; k < papers.size(); k++) {
            if (papers.get(k).b == b && papers.get(k).known <= known && cant(k, known) == 0) list.add(papers.get(k));
        }
        for (int aspect = 0; aspect < 3; aspect++) {
            Map<Integer, List<Paper>> things = new TreeMap<>();
            for (Paper p : list) {
                int said = aspect == 0 ? p.gave : aspect == 1 ? p.got : p.lot;
                if (said == NONE) continue;
                int name = said;
                for (Paper q : list) {
                    int other = aspect == 0 ? q.gave : aspect == 1 ? q.got : q.lot;
                    if (aspect < 2 && other != NONE && isOne(said, other, known)) name = Math.min(name, other);
                }
                things.computeIfAbsent(name, x -> new ArrayList<>()).add(p);
            }
            int best = 0;
            List<Integer> have = new ArrayList<>();
            for (int name : things.keySet()) {
                int sum = things.get(name).stream().filter(p -> p.kind != 3).mapToInt(p -> weigh(p, known)).sum()
                        + things.get(name).stream().filter(p -> p.kind == 3).map(p -> -weigh(p, known)).sorted()
                        .limit(law.get("oaths")).mapToInt(w -> -w).sum();
                if (sum > best) {
                    best = sum;
                    have.clear();
                }
                if (sum == best) have.add(name);
            }
            if (best > 0 && best >= law.get("least")) {
                if (have.size() == 1) {
                    facts[aspect] = have.get(0);
                    facts[5 + aspect] = best;
                } else {
                    facts[9] |= 1 << aspect;
                }
            }
        }
        facts[8] = Math.min(facts[5], Math.min(facts[6], facts[7]));
        int from = 0, to = 9999;
        for (Paper p : list) {
            if (weigh(p, known) > 0) {
                from = Math.max(from, p.from);
                to = Math.min(to, p.to);
            }
        }
        if (from <= to) {
            facts[3] = from;
            facts[4] = to;
        } else {
            facts[9] |= 8;
        }
        return facts;
    }

    public int shown(int b, int known, int what) {
        return b < 0 || b >= burnts || !day(known) || what < 0 || what > 9 ? -9 : facts(b, known)[what];
    }

    public int root(int l, int p, int day) {
        if (!in(l, lots) || !in(p, persons) || !day(day)) return RANGE;
        if (!lots.get(l).parents.isEmpty() || lots.get(l).rootHolder != NONE) return STATE;
        lots.get(l).rootHolder = p;
        lots.get(l).rootDay = day;
        return 1;
    }

    /** Every CHAIN, one by one, is held against the best so far. */
    final class Hunt {
        final int l, p, known;
        final boolean heirs;
        final List<int[]> facts = new ArrayList<>();
        Best best;
        List<Integer> only;

        Hunt(int l, int p, int known) {
            this.l = l;
            this.p = p;
            this.known = known;
            heirs = law(known).get("heirs") == 1;
            for (int b = 0; b < burnts; b++) facts.add(facts(b, known));
        }

        Best run() {
            for (int r = 0; r < lots.size(); r++) {
                if (ofLine(r, l) && lots.get(r).rootHolder != NONE) {
                    go(r, new ArrayList<>(), lots.get(r).rootHolder, lots.get(r).rootDay, 0, 999);
                }
            }
            return best;
        }

        void go(int r, List<Integer> links, int holder, int begin, int gaps, int weakest) {
            boolean ends = isOne(holder, p, known) || heirs && death(holder, known) != NONE && isChild(holder, p, known);
            if (ends && (only == null || links.equals(only))) offer(r, links, gaps, weakest);
            if (links.size() == 8) return;
            for (int b = 0; b < burnts; b++) {
                int[] f = facts.get(b);
                if (links.contains(b) || f[1] == NONE || f[2] == NONE || !ofLine(f[2], l) || f[4] < begin) continue;
                if (only != null && (links.size() >= only.size() || only.get(links.size()) != b)) continue;
                boolean follows = f[0] != NONE && (isOne(holder, f[0], known) || heirs && death(holder, known) != NONE
                        && death(holder, known) <= f[4] && isChild(holder, f[0], known));
                List<Integer> more = new ArrayList<>(links);
                more.add(b);
                go(r, more, f[1], Math.max(begin, f[3]), gaps + (follows ? 0 : 1),
                        links.isEmpty() ? f[8] : Math.min(weakest, f[8]));
            }
        }

        void offer(int r, List<Integer> links, int gaps, int weakest) {
            Best b = new Best();
            b.gaps = gaps;
            b.weakest = weakest;
            b.root = r;
            b.links = new ArrayList<>(links);
            if (best == null || compare(b, best) < 0) best = b;
        }

        int compare(Best a, Best b) {
            if (a.gaps != b.gaps) return a.gaps - b.gaps;
            if (a.weakest != b.weakest) return b.weakest - a.weakest;
            if (a.links.size() != b.links.size()) return a.links.size() - b.links.size();
            if (a.root != b.root) return a.root - b.root;
            for (int i = 0; i < a.links.size(); i++) {
                if (!a.links.get(i).equals(b.links.get(i))) return a.links.get(i) - b.links.get(i);
            }
            return 0;
        }
    }

    boolean bad(int l, int p, int known) {
        return !in(l, lots) || !in(p, persons) || !day(known);
    }

    public int chain(int l, int p, int known) {
        if (bad(l, p, known)) return RANGE;
        Best best = new Hunt(l, p, known).run();
        if (best == null) return NONE;
        told = best;
        return best.gaps;
    }

    public int linked(int what) {
        if (told == null) return NONE;
        int[] plain = {told.gaps, told.weakest, told.links.size(), told.root};
        if (0 <= what && what < 4) return plain[what];
        return in(what - 10, told.links) ? told.links.get(what - 10) : NONE;
    }

    public int judge(int l, int p, int known) {
        String text = take();
        if (bad(l, p, known)) return RANGE;
        Hunt hunt = new Hunt(l, p, known);
        hunt.only = new ArrayList<>();
        for (char c : text.toCharArray()) hunt.only.add(c - 48);
        if (hunt.only.size() > 8) return NONE;
        Best best = hunt.run();
        return best == null ? NONE : best.gaps;
    }

    public int held(int l, int p, int year, int known) {
        if (bad(l, p, known) || year < 0 || year > 27) return RANGE;
        int years = 0;
        for (int y = year; y >= 0; y--) {
            boolean taxed = false;
            for (int k = 0; k < papers.size(); k++) {
                Paper t = papers.get(k);
                taxed |= t.kind == 4 && t.known <= known && t.lot != NONE && ofLine(t.lot, l) && t.got != NONE
                        && isOne(t.got, p, known) && t.from <= 365 * y + 364 && t.to >= 365 * y
                        && weigh(t, known) > 0 && cant(k, known) == 0;
            }
            if (!taxed) break;
            years++;
        }
        return years;
    }

    public int mortgage(int l, int p, int pounds, int day, int till) {
        if (!in(l, lots) || !in(p, persons) || pounds < 1 || pounds > 99999 || !day(day) || !day(till) || till < day) {
            return RANGE;
        }
        if (mortgages.size() == 40) return FULL;
        Mortgage m = new Mortgage();
        m.lot = l;
        m.day = day;
        m.till = till;
        mortgages.add(m);
        return mortgages.size() - 1;
    }

    public int paid(int m, int day) {
        if (!in(m, mortgages) || !day(day)) return RANGE;
        if (mortgages.get(m).paid != NONE) return STATE;
        mortgages.get(m).paid = day;
        mortgages.get(m).paidKnown = clock;
        return 1;
    }

    public int stands(int m, int day, int known) {
        if (!in(m, mortgages) || !day(day) || !day(known)) return RANGE;
        Mortgage g = mortgages.get(m);
        if (g.day > day || day > g.till + 365 * law(known).get("years")) return 0;
        return g.paid != NONE && g.paidKnown <= known && g.paid <= day ? 0 : 1;
    }

    public int rank(int m, int day, int known) {
        int stands = stands(m, day, known);
        if (stands != 1) return stands == 0 ? NONE : stands;
        int rank = 0;
        for (int o = 0; o < mortgages.size(); o++) {
            int first = mortgages.get(o).day * 100 + o;
            if (first < mortgages.get(m).day * 100 + m && ofLine(mortgages.get(o).lot, mortgages.get(m).lot)
                    && stands(o, day, known) == 1) rank++;
        }
        return rank;
    }

    public int claim(int p, int l) {
        if (!in(p, persons) || !in(l, lots)) return RANGE;
        if (!there(l, clock)) return STATE;
        if (claims.size() == 30) return FULL;
        Claim c = new Claim();
        c.p = p;
        c.lot = l;
        c.noticed = clock;
        claims.add(c);
        return claims.size() - 1;
    }

    int[] worthOf(int c) {
        Claim claim = claims.get(c);
        Law law = law(clock);
        Best best = new Hunt(claim.lot, claim.p, clock).run();
        int gaps = best == null ? 99 : best.gaps;
        int weakest = best == null ? 0 : best.weakest;
        int worth = 3;
        if (held(claim.lot, claim.p, clock / 365, clock) >= law.get("long")) worth = 2;
        if (best != null && gaps <= law.get("gap") && weakest >= law.get("doubt")) worth = 2;
        if (best != null && gaps <= law.get("gap") && weakest >= law.get("sure")) worth = 1;
        return new int[] {worth, gaps, -weakest, c};
    }

    public int sit(int l) {
        if (!in(l, lots)) return RANGE;
        if (rulings.containsKey(l)) return STATE;
        List<int[]> heard = new ArrayList<>();
        for (int c = 0; c < claims.size(); c++) {
            Claim claim = claims.get(c);
            if (claim.lot == l && claim.state == 0 && clock - claim.noticed >= law(clock).get("notice")) heard.add(worthOf(c));
        }
        heard.sort(Arrays::compare);
        for (int[] w : heard) claims.get(w[3]).state = 3;
        if (!heard.isEmpty() && heard.get(0)[0] < 3) {
            claims.get(heard.get(0)[3]).state = heard.get(0)[0];
            Ruling r = new Ruling();
            r.claim = heard.get(0)[3];
            r.day = clock;
            r.years = law(clock).get("years");
            rulings.put(l, r);
        }
        return heard.size();
    }

    public int worth(int c) {
        return in(c, claims) ? worthOf(c)[0] : RANGE;
    }

    int stateOf(int c) {
        Claim claim = claims.get(c);
        if (claim.state != 2) return claim.state;
        Ruling r = rulings.get(claim.lot);
        return clock - r.day >= 365 * r.years ? 1 : 2;
    }

    public int claimed(int c, int what) {
        if (!in(c, claims) || what < 0 || what > 4) return -9;
        Claim claim = claims.get(c);
        return new int[] {claim.p, claim.lot, claim.noticed, stateOf(c), claim.pounds}[what];
    }

    public int ruled(int l, int what) {
        if (!rulings.containsKey(l) || what < 0 || what > 2) return NONE;
        Ruling r = rulings.get(l);
        return new int[] {r.claim, r.day, stateOf(r.claim)}[what];
    }

    public int open(int l) {
        if (!in(l, lots)) return RANGE;
        if (ruled(l, 2) != 2) return STATE;
        int has = rulings.get(l).claim;
        boolean open = worthOf(has)[0] == 3;
        for (int c = 0; c < claims.size(); c++) open |= c != has && claims.get(c).lot == l && worthOf(c)[0] == 1;
        if (!open) return 0;
        int due = Math.min(coin, law(clock).get("fund"));
        coin -= due;
        claims.get(has).pounds += due;
        for (Claim c : claims) if (c.lot == l) c.state = 0;
        rulings.remove(l);
        return 1;
    }

    public int fund(int pounds) {
        if (pounds < 1 || pounds > 99999 || coin + pounds > 9999999) return RANGE;
        return coin += pounds;
    }

    public int place(int cost, int b, int points) {
        if (cost < 1 || cost > 99 || b < 0 || b >= burnts || points < 1 || points > 99) return RANGE;
        if (places.size() == 12) return FULL;
        places.add(new int[] {cost, b, points});
        looked = null;
        return places.size() - 1;
    }

    int settled(int set, Map<Integer, Best> bests, List<int[]> facts) {
        Law law = law(clock);
        int settled = 0;
        for (Best best : bests.values()) {
            int weakest = 999;
            for (int i = 0; i < best.links.size(); i++) {
                int b = best.links.get(i);
                int points = facts.get(b)[8];
                for (int k = 0; k < places.size() && points > 0; k++) {
                    if ((set >> k & 1) != 0 && places.get(k)[1] == b) points += places.get(k)[2];
                }
                weakest = i == 0 ? points : Math.min(weakest, points);
            }
            if (best.gaps <= law.get("gap") && weakest >= law.get("sure")) settled++;
        }
        return settled;
    }

    Map<Integer, Best> doubtful() {
        Map<Integer, Best> bests = new TreeMap<>();
        for (int l : rulings.keySet()) {
            if (ruled(l, 2) == 2) {
                Best best = new Hunt(l, claims.get(rulings.get(l).claim).p, clock).run();
                if (best != null) bests.put(l, best);
            }
        }
        return bests;
    }

    List<int[]> allFacts() {
        List<int[]> facts = new ArrayList<>();
        for (int b = 0; b < burnts; b++) facts.add(facts(b, clock));
        return facts;
    }

    public int settles(int set) {
        if (set < 0 || set >= 1 << places.size()) return RANGE;
        return settled(set, doubtful(), allFacts());
    }

    public int next(int sum) {
        if (sum < 0 || sum > 1200) return RANGE;
        Map<Integer, Best> bests = doubtful();
        List<int[]> facts = allFacts();
        int[] best = null;
        for (int set = 0; set < 1 << places.size(); set++) {
            int cost = 0;
            for (int k = 0; k < places.size(); k++) cost += (set >> k & 1) * places.get(k)[0];
            if (cost > sum) continue;
            int[] row = {-settled(set, bests, facts), cost, set};
            if (best == null || Arrays.compare(row, best) < 0) best = row;
        }
        looked = new int[] {best[2], best[1]};
        return -best[0];
    }

    public int looked(int what) {
        return looked == null || what < 0 || what > 1 ? NONE : looked[what];
    }

    public int count(int what) {
        int[] plain = {clock, persons.size(), tellings.size(), lots.size(), laws.size(), burnts, papers.size(),
            mortgages.size(), claims.size(), coin, places.size(), tape.length()};
        if (0 <= what && what < plain.length) return plain[what];
        if (what < 20 || what > 23) return NONE;
        int n = 0;
        for (int c = 0; c < claims.size(); c++) if (stateOf(c) == what - 20) n++;
        return n;
    }
}
