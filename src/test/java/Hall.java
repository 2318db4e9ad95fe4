import java.lang.reflect.Method;
import java.nio.charset.StandardCharsets;
import java.util.ArrayList;
import java.util.Collections;
import java.util.HashMap;
import java.util.List;
import java.util.Map;
import java.util.Random;
import java.util.Set;

/**
 * A BurntHall whose calls are kept, so that the run can be told again to a new one without the calls that
 * must not matter: those that were refused, and those that only ask. What all others answer must stay.
 */
final class Hall {
    private static final int MOST_CALLS = 512;
    private static final Map<String, Method> FACE = new HashMap<>();
    private static final List<Hall> MADE = new ArrayList<>();
    /** They answer and change nothing. */
    private static final Set<String> ASKING = Set.of("deadOn", "one", "names", "about", "line", "error", "area", "strip",
            "fault", "rule", "weight", "cant", "shown", "linked", "held", "stands", "rank", "worth", "claimed", "ruled",
            "settles", "looked", "count");
    /** They empty THE TAPE whatever they tell. */
    private static final Set<String> READING = Set.of("bounds", "act", "paper", "judge");

    static {
        for (Method m : BurntHall.class.getMethods()) FACE.put(m.getName(), m);
    }

    private record Call(String name, int[] args, long answer) {
        boolean isRefused() {
            boolean none = Set.of("end", "mend", "chain", "paper", "judge").contains(name) && answer == BurntHall.NONE;
            return none || answer == BurntHall.RANGE || answer == BurntHall.FULL || answer == BurntHall.STATE;
        }

        String told() {
            StringBuilder row = new StringBuilder(name).append('(');
            for (int i = 0; i < args.length; i++) row.append(i > 0 ? ", " : "").append(args[i]);
            return row.append(')').toString();
        }
    }

    private final BurntHall hall = new BurntHall();
    private final List<Call> calls = new ArrayList<>();

    Hall() {
        MADE.add(this);
    }

    private long note(String name, long answer, int... args) {
        calls.add(new Call(name, args, answer));
        return answer;
    }

    /** THE TAPE then has this text alone. */
    Hall text(String text) {
        byte[] bytes = text.getBytes(StandardCharsets.ISO_8859_1);
        end(0);
        for (int i = 0; i < bytes.length; i += 20) {
            feed(four(bytes, i), four(bytes, i + 4), four(bytes, i + 8), four(bytes, i + 12), four(bytes, i + 16));
        }
        if (bytes.length % 20 != 0) end(bytes.length);
        return this;
    }

    private static int four(byte[] bytes, int from) {
        int number = 0;
        for (int i = from; i < from + 4; i++) number = number << 8 | (i < bytes.length ? bytes[i] & 255 : 32);
        return number;
    }

    int act(String text) {
        return text(text).act();
    }

    int bounds(String text, int l, int cornerX, int cornerY) {
        return text(text).bounds(l, cornerX, cornerY);
    }

    int judge(String row, int l, int p, int known) {
        return text(row).judge(l, p, known);
    }

    void persons(int n) {
        for (int i = 0; i < n; i++) person(0);
    }

    void lots(int n) {
        for (int i = 0; i < n; i++) lot(10, 0);
    }

    /** 45 LOTS of none, then JOINED by fours and at last by three: LOT 59 has all sixty in its LINE. */
    void oneLineOfSixty() {
        lots(45);
        for (int i = 0; i < 14; i++) join(4, 4 * i, 4 * i + 1, 4 * i + 2, 4 * i + 3, 50 + i, 40);
        join(3, 56, 57, 58, 0, 64, 40);
    }

    void burnts(int n) {
        for (int i = 0; i < n; i++) burnt();
    }

    /** All halls made since the last time are told again. */
    static void tellAllAgain() {
        for (Hall hall : MADE) hall.tellAgain();
        MADE.clear();
    }

    private void tellAgain() {
        Due.is("calls of an object: 512 at most", Math.max(calls.size(), MOST_CALLS), MOST_CALLS);
        List<Call> all = new ArrayList<>(calls);
        for (Call question : questions()) {
            if (all.size() < MOST_CALLS) all.add(new Call(question.name, question.args, ask(hall, question)));
        }
        without("refused calls", all, 0);
        without("calls that ask", all, calls.size());
    }

    /** Told again without refused calls, or (where those from asked on stay) without calls that ask. */
    private static void without(String what, List<Call> all, int asked) {
        BurntHall twin = new BurntHall();
        for (int i = 0; i < all.size(); i++) {
            Call call = all.get(i);
            boolean asking = i < asked && ASKING.contains(call.name);
            boolean refused = asked == 0 && call.isRefused();
            if (refused && READING.contains(call.name) && !call.name.equals("act")) {
                twin.end(0);
            } else if (!refused && !asking || call.name.equals("act")) {
                Due.is("without " + what + ", call " + i + " " + call.told(), ask(twin, call), call.answer);
            }
        }
    }

    private static long ask(BurntHall hall, Call call) {
        Object[] boxed = new Object[call.args.length];
        for (int i = 0; i < boxed.length; i++) boxed[i] = call.args[i];
        try {
            return ((Number) FACE.get(call.name).invoke(hall, boxed)).longValue();
        } catch (ReflectiveOperationException e) {
            throw new IllegalStateException(call.told(), e);
        }
    }

    /** What can be asked of all that is there, mixed, so that each run has some of each. */
    private List<Call> questions() {
        List<Call> list = new ArrayList<>();
        int today = (int) calls.stream().filter(c -> c.name.equals("pass")).mapToLong(Call::answer).max().orElse(0);
        today = Math.max(today, 0);
        for (int what = 0; what <= 23; what++) ask(list, "count", what);
        for (int what = 0; what < 2; what++) ask(list, "fault", what);
        for (int what = 0; what < 2; what++) ask(list, "looked", what);
        for (int what = 0; what < 14; what++) ask(list, "linked", what);
        for (int what = 0; what < 11; what++) ask(list, "rule", today, what);
        ask(list, "names", today);
        ask(list, "next", 1200);
        for (int p = 0; p < came("person"); p++) ask(list, "deadOn", p, today);
        for (int p = 1; p < came("person"); p++) ask(list, "one", p - 1, p, today);
        for (int l = 0; l < came("lot") + came("join") + came("split"); l++) askOfLot(list, l, today);
        for (int b = 0; b < came("burnt"); b++) {
            for (int what = 0; what < 10; what++) ask(list, "shown", b, today, what);
        }
        for (int k = 0; k < came("paper"); k++) {
            ask(list, "weight", k, today);
            ask(list, "cant", k, today);
        }
        for (int m = 0; m < came("mortgage"); m++) ask(list, "rank", m, today, today);
        for (int c = 0; c < came("claim"); c++) {
            for (int what = 0; what < 5; what++) ask(list, "claimed", c, what);
            ask(list, "worth", c);
        }
        Collections.shuffle(list, new Random(calls.size()));
        return list;
    }

    /** How many came by calls of a name; the calls are asked, so that the hall is asked no more than 512 times. */
    private int came(String name) {
        int n = 0;
        for (Call call : calls) {
            if (call.name.equals(name) && call.answer >= 0) n += name.equals("split") ? call.args[2] : 1;
        }
        return n;
    }

    private void askOfLot(List<Call> list, int l, int today) {
        for (int what = 0; what < 12; what++) ask(list, "about", l, what);
        for (int what = 0; what < 3; what++) ask(list, "ruled", l, what);
        ask(list, "line", l);
        ask(list, "error", l);
        ask(list, "area", l);
        for (int p = 0; p < Math.min(3, came("person")); p++) ask(list, "chain", l, p, today);
    }

    private static void ask(List<Call> list, String name, int... args) {
        list.add(new Call(name, args, 0));
    }

    int feed(int a, int b, int c, int d, int e) {
        return (int) note("feed", hall.feed(a, b, c, d, e), a, b, c, d, e);
    }

    int end(int n) {
        return (int) note("end", hall.end(n), n);
    }

    int pass(int n) {
        return (int) note("pass", hall.pass(n), n);
    }

    int person(int from) {
        return (int) note("person", hall.person(from), from);
    }

    int dead(int p, int from) {
        return (int) note("dead", hall.dead(p, from), p, from);
    }

    int same(int p, int q) {
        return (int) note("same", hall.same(p, q), p, q);
    }

    int apart(int p, int q) {
        return (int) note("apart", hall.apart(p, q), p, q);
    }

    int child(int p, int q) {
        return (int) note("child", hall.child(p, q), p, q);
    }

    int deadOn(int p, int known) {
        return (int) note("deadOn", hall.deadOn(p, known), p, known);
    }

    int one(int p, int q, int known) {
        return (int) note("one", hall.one(p, q, known), p, q, known);
    }

    int names(int known) {
        return (int) note("names", hall.names(known), known);
    }

    int lot(int feet, int day) {
        return (int) note("lot", hall.lot(feet, day), feet, day);
    }

    int split(int l, int day, int n, int a, int b, int c, int d) {
        return (int) note("split", hall.split(l, day, n, a, b, c, d), l, day, n, a, b, c, d);
    }

    int join(int n, int a, int b, int c, int d, int day, int feet) {
        return (int) note("join", hall.join(n, a, b, c, d, day, feet), n, a, b, c, d, day, feet);
    }

    int about(int l, int what) {
        return (int) note("about", hall.about(l, what), l, what);
    }

    long line(int l) {
        return note("line", hall.line(l), l);
    }

    int bounds(int l, int x, int y) {
        return (int) note("bounds", hall.bounds(l, x, y), l, x, y);
    }

    int error(int l) {
        return (int) note("error", hall.error(l), l);
    }

    int mend(int l) {
        return (int) note("mend", hall.mend(l), l);
    }

    int area(int l) {
        return (int) note("area", hall.area(l), l);
    }

    int strip(int l, int o) {
        return (int) note("strip", hall.strip(l, o), l, o);
    }

    int act() {
        return (int) note("act", hall.act());
    }

    int fault(int what) {
        return (int) note("fault", hall.fault(what), what);
    }

    int rule(int day, int what) {
        return (int) note("rule", hall.rule(day, what), day, what);
    }

    int burnt() {
        return (int) note("burnt", hall.burnt());
    }

    int paper(int kind, int b, int gave, int got, int l, int from, int to) {
        return (int) note("paper", hall.paper(kind, b, gave, got, l, from, to), kind, b, gave, got, l, from, to);
    }

    int written(int k, int hand, int day, int book, int page) {
        return (int) note("written", hall.written(k, hand, day, book, page), k, hand, day, book, page);
    }

    int pages(int n) {
        return (int) note("pages", hall.pages(n), n);
    }

    int weight(int k, int day) {
        return (int) note("weight", hall.weight(k, day), k, day);
    }

    int cant(int k, int known) {
        return (int) note("cant", hall.cant(k, known), k, known);
    }

    int shown(int b, int known, int what) {
        return (int) note("shown", hall.shown(b, known, what), b, known, what);
    }

    int root(int l, int p, int day) {
        return (int) note("root", hall.root(l, p, day), l, p, day);
    }

    int chain(int l, int p, int known) {
        return (int) note("chain", hall.chain(l, p, known), l, p, known);
    }

    int linked(int what) {
        return (int) note("linked", hall.linked(what), what);
    }

    int judge(int l, int p, int known) {
        return (int) note("judge", hall.judge(l, p, known), l, p, known);
    }

    int held(int l, int p, int year, int known) {
        return (int) note("held", hall.held(l, p, year, known), l, p, year, known);
    }

    int mortgage(int l, int p, int pounds, int day, int till) {
        return (int) note("mortgage", hall.mortgage(l, p, pounds, day, till), l, p, pounds, day, till);
    }

    int paid(int m, int day) {
        return (int) note("paid", hall.paid(m, day), m, day);
    }

    int stands(int m, int day, int known) {
        return (int) note("stands", hall.stands(m, day, known), m, day, known);
    }

    int rank(int m, int day, int known) {
        return (int) note("rank", hall.rank(m, day, known), m, day, known);
    }

    int claim(int p, int l) {
        return (int) note("claim", hall.claim(p, l), p, l);
    }

    int sit(int l) {
        return (int) note("sit", hall.sit(l), l);
    }

    int worth(int c) {
        return (int) note("worth", hall.worth(c), c);
    }

    int claimed(int c, int what) {
        return (int) note("claimed", hall.claimed(c, what), c, what);
    }

    int ruled(int l, int what) {
        return (int) note("ruled", hall.ruled(l, what), l, what);
    }

    int open(int l) {
        return (int) note("open", hall.open(l), l);
    }

    int fund(int pounds) {
        return (int) note("fund", hall.fund(pounds), pounds);
    }

    int place(int cost, int b, int points) {
        return (int) note("place", hall.place(cost, b, points), cost, b, points);
    }

    int settles(int set) {
        return (int) note("settles", hall.settles(set), set);
    }

    int next(int sum) {
        return (int) note("next", hall.next(sum), sum);
    }

    int looked(int what) {
        return (int) note("looked", hall.looked(what), what);
    }

    int count(int what) {
        return (int) note("count", hall.count(what), what);
    }
}
