import java.util.Arrays;

/** A board that makes a town's burnt records whole again; README.md says how to use it. */
public final class BurntHall {
    public static final int NONE = -1;
    public static final int RANGE = -2;
    public static final int FULL = -3;
    public static final int STATE = -4;

    private static final int NO_SUCH = -9;
    private static final int LAST_DAY = 9999;
    private static final int YEAR = 365;
    private static final int LAST_YEAR = 27;
    private static final int MOST_POUNDS = 99999;
    private static final int MOST_SUM = 1200;

    private final Tape tape;
    private final People people;
    private final Lots lots;
    private final Acts acts;
    private final Papers papers;
    private final Evidence evidence;
    private final Chains chains;
    private final Mortgages mortgages;
    private final Claims claims;
    private final Places places;
    private int today;

    public BurntHall() {
        tape = new Tape();
        people = new People();
        lots = new Lots();
        acts = new Acts(tape);
        papers = new Papers();
        evidence = new Evidence(people, lots, papers, acts);
        chains = new Chains(people, lots, evidence);
        mortgages = new Mortgages(lots, acts);
        claims = new Claims(acts, evidence, chains);
        places = new Places(acts, evidence, chains, claims);
        today = 0;
    }

    public int feed(int a, int b, int c, int d, int e) {
        if (tape.length + 20 > Tape.ROOM) {
            return FULL;
        }
        tape.put(a);
        tape.put(b);
        tape.put(c);
        tape.put(d);
        tape.put(e);
        return tape.length;
    }

    public int end(int n) {
        if (n < 0 || n > tape.length) {
            return NONE;
        }
        tape.length = n;
        return n;
    }

    // ---- persons

    public int pass(int n) {
        if (n < 1 || n > 5000 || today + n > LAST_DAY) {
            return RANGE;
        }
        today += n;
        return today;
    }

    public int person(int from) {
        return isDay(from) ? people.add(from) : RANGE;
    }

    public int dead(int p, int from) {
        if (!people.has(p) || !isDay(from)) {
            return RANGE;
        }
        evidence.forget();
        return people.tell(People.DEAD, p, from, today);
    }

    public int same(int p, int q) {
        return tellOfTwo(People.SAME, p, q);
    }

    public int apart(int p, int q) {
        return tellOfTwo(People.APART, p, q);
    }

    public int child(int p, int q) {
        return tellOfTwo(People.CHILD, p, q);
    }

    private int tellOfTwo(int kind, int p, int q) {
        if (!people.has(p) || !people.has(q) || p == q) {
            return RANGE;
        }
        evidence.forget();
        return people.tell(kind, p, q, today);
    }

    public int deadOn(int p, int known) {
        if (!people.has(p) || !isDay(known)) {
            return RANGE;
        }
        people.know(known);
        return people.deathOf(p);
    }

    public int one(int p, int q, int known) {
        if (!people.has(p) || !people.has(q) || !isDay(known)) {
            return RANGE;
        }
        people.know(known);
        return people.groupOf(p) == people.groupOf(q) ? 1 : 0;
    }

    public int names(int known) {
        if (!isDay(known)) {
            return RANGE;
        }
        people.know(known);
        return people.quarrels(known);
    }

    // ---- lots

    public int lot(int feet, int day) {
        if (!Lots.isFeet(feet) || !isDay(day)) {
            return RANGE;
        }
        return lots.room() < 1 ? FULL : lots.add(feet, day, 0L);
    }

    public int split(int l, int day, int n, int a, int b, int c, int d) {
        if (!lots.has(l) || !isDay(day) || n < 2 || n > 4) {
            return RANGE;
        }
        lots.four(a, b, c, d);
        if (!lots.fourAreFeet(n)) {
            return RANGE;
        }
        if (!lots.mayEnd(l, day)) {
            return STATE;
        }
        if (lots.room() < n) {
            return FULL;
        }
        evidence.forget();
        return lots.divide(l, day, n);
    }

    public int join(int n, int a, int b, int c, int d, int day, int feet) {
        if (n < 2 || n > 4 || !isDay(day) || !Lots.isFeet(feet)) {
            return RANGE;
        }
        lots.four(a, b, c, d);
        if (!lots.fourAreLots(n)) {
            return RANGE;
        }
        if (!lots.fourMayEnd(n, day)) {
            return STATE;
        }
        if (lots.room() < 1) {
            return FULL;
        }
        evidence.forget();
        return lots.unite(n, day, feet);
    }

    public int about(int l, int what) {
        return lots.has(l) ? lots.tellAbout(l, what) : NO_SUCH;
    }

    public long line(int l) {
        return lots.has(l) ? lots.origin[l] : 0L;
    }

    public int bounds(int l, int x, int y) {
        int answer = RANGE;
        if (lots.has(l) && x >= 0 && x <= 99 && y >= 0 && y <= 99) {
            answer = lots.readBounds(tape, l, x, y);
        }
        tape.clear();
        return answer;
    }

    public int error(int l) {
        int bad = withoutBounds(l);
        return bad < 0 ? bad : Math.abs(lots.miss(l, 0)) + Math.abs(lots.miss(l, 1));
    }

    public int mend(int l) {
        int bad = withoutBounds(l);
        return bad < 0 ? bad : lots.closeBounds(l);
    }

    public int area(int l) {
        int bad = withoutBounds(l);
        if (bad < 0) {
            return bad;
        }
        return lots.enclose(l) ? lots.within(l, l) : NONE;
    }

    public int strip(int l, int o) {
        if (!lots.has(l) || !lots.has(o) || l == o) {
            return RANGE;
        }
        if (lots.sides[l] == 0 || lots.sides[o] == 0) {
            return STATE;
        }
        return lots.enclose(l) && lots.enclose(o) ? lots.within(l, o) : NONE;
    }

    private int withoutBounds(int l) {
        if (!lots.has(l)) {
            return RANGE;
        }
        return lots.sides[l] == 0 ? STATE : 0;
    }

    // ---- the act

    public int act() {
        int clauses = acts.read();
        tape.clear();
        if (clauses < 0) {
            return NONE;
        }
        if (acts.size >= Acts.ROOM) {
            return FULL;
        }
        acts.enact(today);
        papers.weighAll(acts);
        evidence.forget();
        return clauses;
    }

    public int fault(int what) {
        if (what == 0) {
            return tape.faultKind;
        }
        return what == 1 ? tape.faultPlace : NONE;
    }

    public int rule(int day, int what) {
        if (!isDay(day) || what < 0 || what > 10) {
            return NO_SUCH;
        }
        Act act = acts.inForce(day);
        return what == 10 ? act.proofs : act.told(what);
    }

    // ---- papers

    public int burnt() {
        evidence.forget();
        return evidence.addBurnt();
    }

    public int paper(int kind, int b, int gave, int got, int l, int from, int to) {
        int answer = RANGE;
        if (kind >= 0 && kind < Acts.KINDS && isNoneOr(b, evidence.burnts)
                && isNoneOr(gave, people.size) && isNoneOr(got, people.size)
                && isNoneOr(l, lots.size) && isDay(from) && isDay(to) && from <= to) {
            answer = papers.readMarks(tape);
        }
        tape.clear();
        if (answer < 0) {
            return answer;
        }
        int k = papers.add(kind, b, today);
        papers.say(k, gave, got, l, from, to);
        papers.weigh(k, acts);
        evidence.forget();
        return k;
    }

    public int written(int k, int hand, int day, int book, int page) {
        if (!papers.has(k) || !people.has(hand) || !isDay(day)
                || book < 0 || book > 9 || page < 0 || page > 99) {
            return RANGE;
        }
        if (papers.hand[k] != NONE) {
            return STATE;
        }
        papers.sign(k, hand, day, book * 100 + page);
        evidence.forget();
        return 1;
    }

    public int pages(int n) {
        if (n < 1 || n > 40) {
            return RANGE;
        }
        int before = papers.pageRoom;
        papers.pageRoom = n;
        evidence.forget();
        return before;
    }

    public int weight(int k, int day) {
        return papers.has(k) && isDay(day) ? papers.weightBy(k, acts.numberInForce(day)) : RANGE;
    }

    public int cant(int k, int known) {
        if (!papers.has(k) || !isDay(known)) {
            return RANGE;
        }
        people.know(known);
        return evidence.reason(k, known);
    }

    public int shown(int b, int known, int what) {
        if (b < 0 || b >= evidence.burnts || !isDay(known) || what < 0 || what >= Evidence.FACTS) {
            return NO_SUCH;
        }
        evidence.know(known);
        return evidence.fact(b, what);
    }

    // ---- chains

    public int root(int l, int p, int day) {
        if (!lots.has(l) || !people.has(p) || !isDay(day)) {
            return RANGE;
        }
        if (lots.origin[l] != 1L << l || lots.rootHolder[l] != NONE) {
            return STATE;
        }
        lots.rootHolder[l] = p;
        lots.rootDay[l] = day;
        return 1;
    }

    public int chain(int l, int p, int known) {
        if (!lots.has(l) || !people.has(p) || !isDay(known)) {
            return RANGE;
        }
        evidence.know(known);
        int gaps = chains.search(l, p);
        if (gaps != NONE) {
            chains.remember();
        }
        return gaps;
    }

    public int linked(int what) {
        return chains.recall(what);
    }

    public int judge(int l, int p, int known) {
        int answer = RANGE;
        if (lots.has(l) && people.has(p) && isDay(known)) {
            evidence.know(known);
            answer = chains.judgeRow(l, p, tape);
        }
        tape.clear();
        return answer;
    }

    public int held(int l, int p, int year, int known) {
        if (!lots.has(l) || !people.has(p) || year < 0 || year > LAST_YEAR || !isDay(known)) {
            return RANGE;
        }
        evidence.know(known);
        return evidence.yearsHeld(l, p, year);
    }

    // ---- mortgages

    public int mortgage(int l, int p, int pounds, int day, int till) {
        if (!lots.has(l) || !people.has(p) || pounds < 1 || pounds > MOST_POUNDS
                || !isDay(day) || !isDay(till) || till < day) {
            return RANGE;
        }
        return mortgages.add(l, day, till);
    }

    public int paid(int m, int day) {
        if (!mortgages.has(m) || !isDay(day)) {
            return RANGE;
        }
        return mortgages.pay(m, day, today);
    }

    public int stands(int m, int day, int known) {
        if (!mortgages.has(m) || !isDay(day) || !isDay(known)) {
            return RANGE;
        }
        return mortgages.isStanding(m, day, known) ? 1 : 0;
    }

    public int rank(int m, int day, int known) {
        if (!mortgages.has(m) || !isDay(day) || !isDay(known)) {
            return RANGE;
        }
        return mortgages.isStanding(m, day, known) ? mortgages.ahead(m, day, known) : NONE;
    }

    // ---- claims

    public int claim(int p, int l) {
        if (!people.has(p) || !lots.has(l)) {
            return RANGE;
        }
        return lots.isThere(l, today) ? claims.add(p, l, today) : STATE;
    }

    public int sit(int l) {
        if (!lots.has(l)) {
            return RANGE;
        }
        if (claims.isRuled(l)) {
            return STATE;
        }
        evidence.know(today);
        return claims.hear(l, today);
    }

    public int worth(int c) {
        if (!claims.has(c)) {
            return RANGE;
        }
        evidence.know(today);
        return claims.appraise(c, today);
    }

    public int claimed(int c, int what) {
        return claims.has(c) ? claims.tellAbout(c, what, today) : NO_SUCH;
    }

    public int ruled(int l, int what) {
        return lots.has(l) && claims.isRuled(l) ? claims.tellRuling(l, what, today) : NONE;
    }

    public int open(int l) {
        if (!lots.has(l)) {
            return RANGE;
        }
        if (!claims.isDoubtful(l, today)) {
            return STATE;
        }
        evidence.know(today);
        return claims.mustReopen(l, today) ? claims.reopen(l, today) : 0;
    }

    public int fund(int pounds) {
        return pounds < 1 || pounds > MOST_POUNDS ? RANGE : claims.putCoin(pounds);
    }

    // ---- where to look

    public int place(int cost, int b, int points) {
        if (cost < 1 || cost > 99 || b < 0 || b >= evidence.burnts || points < 1 || points > 99) {
            return RANGE;
        }
        return places.add(cost, b, points);
    }

    public int settles(int set) {
        if (set < 0 || set >= 1 << places.size) {
            return RANGE;
        }
        evidence.know(today);
        return places.settledBy(set, today);
    }

    public int next(int sum) {
        if (sum < 0 || sum > MOST_SUM) {
            return RANGE;
        }
        evidence.know(today);
        return places.bestWithin(sum, today);
    }

    public int looked(int what) {
        return places.recall(what);
    }

    public int count(int what) {
        if (what >= 20 && what <= 23) {
            return claims.countThat(what - 20, today);
        }
        switch (what) {
            case 0: return today;
            case 1: return people.size;
            case 2: return people.tellings;
            case 3: return lots.size;
            case 4: return acts.size;
            case 5: return evidence.burnts;
            case 6: return papers.size;
            case 7: return mortgages.size;
            case 8: return claims.size;
            case 9: return claims.coin;
            case 10: return places.size;
            case 11: return tape.length;
            default: return NONE;
        }
    }

    private static boolean isDay(int day) {
        return day >= 0 && day <= LAST_DAY;
    }

    private static boolean isNoneOr(int number, int limit) {
        return number >= NONE && number < limit;
    }

    /** THE TAPE, its TOKENS one by one, and the FAULT of the latest act() or bounds(). */
    private static final class Tape {
        static final int ROOM = 1000;
        static final int END = 0;
        static final int WORD = 1;
        static final int NUMBER = 2;
        static final int SIGN = 3;
        static final int WRONG = 4;
        static final int SYNTAX = 1;
        static final int OUT_OF_BOUNDS = 2;
        static final int TWICE = 3;
        static final int NO_ROOM = 4;
        static final int LONGEST_WORD = 12;
        static final int LONGEST_NUMBER = 4;

        final byte[] bytes = new byte[ROOM];
        int length;
        /** The TOKEN that the reader is at. */
        int kind;
        int place;
        long value;
        int faultKind;
        int faultPlace = NONE;
        /** The first byte behind that TOKEN. */
        private int behind;

        void put(int four) {
            for (int shift = 24; shift >= 0; shift -= 8) {
                if (length < ROOM) {
                    bytes[length] = (byte) (four >> shift);
                    length++;
                }
            }
        }

        void clear() {
            length = 0;
        }

        int byteAt(int i) {
            return i >= 0 && i < length && i < ROOM ? bytes[i] & 255 : NONE;
        }

        /** The start of a text whose FAULTS are told; MARKS have none, they only rewind. */
        void begin() {
            faultKind = 0;
            faultPlace = NONE;
            rewind();
        }

        void rewind() {
            behind = 0;
            step();
        }

        /** The reader comes to the next TOKEN. It is cut in one go: those who read stand deep already. */
        void step() {
            int from = behind;
            while (from < length && isBlank(byteAt(from))) {
                from++;
            }
            int to = from;
            int first = byteAt(from);
            value = 0;
            if (isLetter(first)) {
                for (; to < length && isLetter(byteAt(to)); to++) {
                    value = withLetter(value, byteAt(to));
                }
                kind = to - from > LONGEST_WORD ? WRONG : WORD;
            } else if (isDigit(first)) {
                for (; to < length && isDigit(byteAt(to)); to++) {
                    value = value * 10 + byteAt(to) - '0';
                }
                kind = to - from > LONGEST_NUMBER ? WRONG : NUMBER;
            } else if (from < length) {
                kind = isSignByte(first) ? SIGN : WRONG;
                value = first;
                to++;
            } else {
                kind = END;
            }
            place = from;
            behind = to;
        }

        boolean isSign(char sign) {
            return kind == SIGN && value == sign;
        }

        boolean isWord(long code) {
            return kind == WORD && value == code;
        }

        /** The number of an N: four digits at most. */
        int number() {
            return (int) value;
        }

        /** The FAULT is at the TOKEN that the reader is at; false, so that a reader can return it. */
        boolean wrong(int why) {
            faultKind = why;
            faultPlace = place;
            return false;
        }

        private static boolean isLetter(int c) {
            return c >= 'a' && c <= 'z';
        }

        private static boolean isDigit(int c) {
            return c >= '0' && c <= '9';
        }

        private static boolean isBlank(int c) {
            return c == ' ' || c == '\n';
        }

        private static boolean isSignByte(int c) {
            return c == ';' || c == '=' || c == '(' || c == ')' || c == '+';
        }

        /** Twelve letters of five bits fit a long, so that WORDS are compared as numbers. */
        private static long withLetter(long code, int letter) {
            return code << 5 | letter - 'a' + 1;
        }

        /** The codes of WORDS told with one blank between. */
        static long[] codes(String words, int n) {
            long[] codes = new long[n];
            int which = 0;
            for (int i = 0; i < words.length(); i++) {
                char c = words.charAt(i);
                if (c == ' ') {
                    which++;
                } else if (which < n) {
                    codes[which] = withLetter(codes[which], c);
                }
            }
            return codes;
        }
    }

    /** One ACT: what its clauses tell, and its proofs with their CONDS as rows of steps. */
    private static final class Act {
        static final int LEAST = 0;
        static final int SURE = 1;
        static final int DOUBT = 2;
        static final int GAP = 3;
        static final int NOTICE = 4;
        static final int LONG = 5;
        static final int YEARS = 6;
        static final int OATHS = 7;
        static final int HEIRS = 8;
        static final int FUND = 9;
        static final int RULES = 10;
        static final int MOST_PROOFS = 24;
        static final int PUSH_NUMBER = 0;
        static final int PUSH_MARK = 1;
        static final int ADD = 2;
        static final int ABOVE = 3;
        static final int BELOW = 4;
        static final int IS = 5;
        static final int AND = 6;
        static final int OR = 7;
        static final int NOT = 8;
        static final int POSITIVE = 9;
        private static final int[] UNTOLD = {1, 20, 8, 2, 30, 20, 10, 2, 0, 0};

        int day;
        int proofs;
        private final int[] rules = new int[RULES];
        /** Of each proof its KIND times 100 and its N. */
        private final int[] proofRow = new int[MOST_PROOFS];
        private final int[] starts = new int[MOST_PROOFS + 1];
        private long[] steps = new long[0];

        Act() {
            System.arraycopy(UNTOLD, 0, rules, 0, RULES);
        }

        void reset() {
            System.arraycopy(UNTOLD, 0, rules, 0, RULES);
            proofs = 0;
        }

        int told(int what) {
            return what >= 0 && what < RULES ? rules[what] : 0;
        }

        void tell(int what, int number) {
            if (what >= 0 && what < RULES) {
                rules[what] = number;
            }
        }

        /** A proof's steps are those behind the steps of the proof before it, up to end. */
        void addProof(int kind, int weight, int end) {
            if (proofs < MOST_PROOFS) {
                proofRow[proofs] = kind * 100 + weight;
                proofs++;
                starts[proofs] = end;
            }
        }

        void keepSteps(long[] drafted, int n) {
            if (n >= 0 && n <= drafted.length) {
                steps = Arrays.copyOf(drafted, n);
            }
        }

        int weightOf(Papers papers, int k, int[] stack) {
            for (int i = proofs - 1; i >= 0; i--) {
                if (proofRow[i] / 100 == papers.kind[k]
                        && (starts[i] == starts[i + 1] || holds(i, papers, k, stack))) {
                    return proofRow[i] % 100;
                }
            }
            return 0;
        }

        private boolean holds(int proof, Papers papers, int k, int[] stack) {
            int top = 0;
            for (int i = starts[proof]; i < starts[proof + 1] && i < steps.length; i++) {
                int step = (int) (steps[i] & 15);
                long operand = steps[i] >>> 4;
                if (step <= PUSH_MARK) {
                    if (top < stack.length) {
                        stack[top] = step == PUSH_NUMBER ? (int) operand : papers.mark(k, operand);
                        top++;
                    }
                } else if (step >= NOT) {
                    if (top > 0) {
                        boolean positive = stack[top - 1] > 0;
                        stack[top - 1] = positive == (step == POSITIVE) ? 1 : 0;
                    }
                } else if (top > 1) {
                    top--;
                    stack[top - 1] = ofTwo(step, stack[top - 1], stack[top]);
                }
            }
            return top > 0 && stack[0] > 0;
        }

        private static int ofTwo(int step, int a, int b) {
            switch (step) {
                case ADD: return a + b;
                case ABOVE: return a > b ? 1 : 0;
                case BELOW: return a < b ? 1 : 0;
                case IS: return a == b ? 1 : 0;
                case AND: return a & b;
                default: return a | b;
            }
        }
    }

    /** The ACTS, each from its day on, and the reader of their text. */
    private static final class Acts {
        static final int ROOM = 8;
        static final int KINDS = 7;
        static final int OATH = 3;
        static final int TAX = 4;
        private static final int PROOF = 10;
        private static final int MOST_TESTS = 12;
        private static final int MOST_TERMS = 3;
        private static final int MOST_OPEN = 5;
        private static final int MOST_WEIGHT = 99;
        /** Places of the WORDS that no TERM is; "above", "below" and "is" stand as their steps do. */
        private static final int OR_WORD = 0;
        private static final int AND_WORD = 1;
        private static final int NOT_WORD = 2;
        private static final int WHEN_WORD = 6;
        private static final int RESERVED = 7;
        /** What waits on a level of ( for the ONE that is read next. */
        private static final int NOT_WAITS = 1;
        private static final int AND_WAITS = 2;
        private static final int OR_WAITS = 4;
        private static final int[] LOWEST = {0, 0, 0, 0, 0, 1, 1, 0, 0, 0};
        private static final int[] HIGHEST = {999, 999, 999, 20, 999, 99, 99, 20, 1, 9999};

        int size;
        private final Tape tape;
        private final long[] clauseWords;
        private final long[] kindWords;
        private final long[] reserved;
        /** Slot 0 is what isn't told, 1 to 8 are the ACTS; the slot behind them is the draft. */
        private final Act[] slots = new Act[ROOM + 2];
        private final long[] steps = new long[Tape.ROOM];
        private final int[] waiting = new int[MOST_OPEN + 1];
        private Act draft;
        private int stepCount;
        private int toldClauses;
        private int tests;

        Acts(Tape tape) {
            this.tape = tape;
            clauseWords = Tape.codes("least sure doubt gap notice long years oaths heirs fund proof", PROOF + 1);
            kindWords = Tape.codes("deed copy index oath tax plate abstract", KINDS);
            reserved = Tape.codes("or and not above below is when", RESERVED);
            for (int i = 0; i < slots.length; i++) {
                slots[i] = new Act();
            }
            draft = slots[1];
        }

        /** 0 if none is IN FORCE: the slot of what isn't told. */
        int numberInForce(int day) {
            for (int i = size; i > 0; i--) {
                if (slots[i].day <= day) {
                    return i;
                }
            }
            return 0;
        }

        Act inForce(int day) {
            return slots[numberInForce(day)];
        }

        Act slot(int i) {
            return i >= 0 && i < slots.length ? slots[i] : slots[0];
        }

        void enact(int day) {
            if (size < ROOM) {
                draft.day = day;
                draft.keepSteps(steps, stepCount);
                size++;
            }
        }

        /** How many clauses the draft has; NONE with a FAULT. */
        int read() {
            tape.begin();
            draft = slot(size + 1);
            draft.reset();
            stepCount = 0;
            toldClauses = 0;
            for (int clauses = 0; clauses < Tape.ROOM; clauses++) {
                if (tape.kind == Tape.END) {
                    return clauses;
                }
                int which = placeOf(clauseWords);
                if (which == PROOF ? !readProof() : !readRule(which)) {
                    return NONE;
                }
                if (!tape.isSign(';')) {
                    tape.wrong(Tape.SYNTAX);
                    return NONE;
                }
                tape.step();
            }
            return NONE;
        }

        private boolean readRule(int which) {
            if (which == NONE) {
                return tape.wrong(Tape.SYNTAX);
            }
            if ((toldClauses >> which & 1) != 0) {
                return tape.wrong(Tape.TWICE);
            }
            toldClauses |= 1 << which;
            tape.step();
            if (which == Act.HEIRS) {
                draft.tell(which, 1);
                return true;
            }
            if (!isNumber(LOWEST[which], HIGHEST[which])) {
                return false;
            }
            draft.tell(which, tape.number());
            tape.step();
            return true;
        }

        private boolean readProof() {
            if (draft.proofs >= Act.MOST_PROOFS) {
                return tape.wrong(Tape.NO_ROOM);
            }
            tape.step();
            int kind = placeOf(kindWords);
            if (kind == NONE) {
                return tape.wrong(Tape.SYNTAX);
            }
            tape.step();
            if (!isNumber(0, MOST_WEIGHT)) {
                return false;
            }
            int weight = tape.number();
            tape.step();
            if (tape.isWord(reserved[WHEN_WORD])) {
                tape.step();
                if (!readCond()) {
                    return false;
                }
            }
            draft.addProof(kind, weight, stepCount);
            return true;
        }

        /** A COND becomes a row of steps, each behind what it works on; no call goes deeper for a (. */
        private boolean readCond() {
            int open = 0;
            tests = 0;
            waiting[0] = 0;
            for (int i = 0; i < Tape.ROOM; i++) {
                if (tape.isWord(reserved[NOT_WORD])) {
                    waiting[open] ^= NOT_WAITS;
                    tape.step();
                } else if (tape.isSign('(')) {
                    if (open >= MOST_OPEN) {
                        return tape.wrong(Tape.NO_ROOM);
                    }
                    open++;
                    waiting[open] = 0;
                    tape.step();
                } else {
                    if (!readTest()) {
                        return false;
                    }
                    open = closeLevels(open);
                    if (!goesOn(open)) {
                        settleAll(open);
                        return open == 0 || tape.wrong(Tape.SYNTAX);
                    }
                }
            }
            return false;
        }

        /** A ONE was read; each ) makes the level that it closes a ONE of the level around. */
        private int closeLevels(int from) {
            int open = from;
            settleOne(open);
            for (int i = 0; i < MOST_OPEN && open > 0 && tape.isSign(')'); i++) {
                settleAll(open);
                open--;
                settleOne(open);
                tape.step();
            }
            return open;
        }

        /** Whether "and" or "or" stands behind a ONE. */
        private boolean goesOn(int open) {
            if (tape.isWord(reserved[AND_WORD])) {
                waiting[open] |= AND_WAITS;
                tape.step();
                return true;
            }
            if (tape.isWord(reserved[OR_WORD])) {
                settleAll(open);
                waiting[open] |= OR_WAITS;
                tape.step();
                return true;
            }
            return false;
        }

        private void settleOne(int level) {
            if ((waiting[level] & NOT_WAITS) != 0) {
                emit(Act.NOT, 0);
            }
            if ((waiting[level] & AND_WAITS) != 0) {
                emit(Act.AND, 0);
            }
            waiting[level] &= OR_WAITS;
        }

        private void settleAll(int level) {
            if ((waiting[level] & OR_WAITS) != 0) {
                emit(Act.OR, 0);
            }
        }

        private boolean readTest() {
            if (isTerm() && tests >= MOST_TESTS) {
                return tape.wrong(Tape.NO_ROOM);
            }
            tests++;
            if (!readSum()) {
                return false;
            }
            int which = placeOf(reserved);
            if (which <= NOT_WORD || which >= WHEN_WORD) {
                emit(Act.POSITIVE, 0);
                return true;
            }
            tape.step();
            if (!readSum()) {
                return false;
            }
            emit(which, 0);
            return true;
        }

        private boolean readSum() {
            for (int terms = 0; terms < Tape.ROOM; terms++) {
                if (!isTerm()) {
                    return tape.wrong(Tape.SYNTAX);
                }
                if (terms >= MOST_TERMS) {
                    return tape.wrong(Tape.NO_ROOM);
                }
                emit(tape.kind == Tape.NUMBER ? Act.PUSH_NUMBER : Act.PUSH_MARK, tape.value);
                if (terms > 0) {
                    emit(Act.ADD, 0);
                }
                tape.step();
                if (!tape.isSign('+')) {
                    return true;
                }
                tape.step();
            }
            return false;
        }

        private boolean isTerm() {
            return tape.kind == Tape.NUMBER || tape.kind == Tape.WORD && placeOf(reserved) == NONE;
        }

        private void emit(int step, long operand) {
            if (stepCount < steps.length) {
                steps[stepCount] = operand << 4 | step;
                stepCount++;
            }
        }

        private boolean isNumber(int lowest, int highest) {
            if (tape.kind != Tape.NUMBER) {
                return tape.wrong(Tape.SYNTAX);
            }
            boolean fits = tape.number() >= lowest && tape.number() <= highest;
            return fits || tape.wrong(Tape.OUT_OF_BOUNDS);
        }

        private int placeOf(long[] words) {
            for (int i = 0; i < words.length; i++) {
                if (tape.kind == Tape.WORD && tape.value == words[i]) {
                    return i;
                }
            }
            return NONE;
        }
    }

    /** Persons and TELLINGS, and who is ONE, DEAD and a CHILD as KNOWN on the day asked last. */
    private static final class People {
        static final int ROOM = 80;
        static final int MOST_TELLINGS = 400;
        static final int DEAD = 0;
        static final int SAME = 1;
        static final int APART = 2;
        static final int CHILD = 3;

        int size;
        int tellings;
        final int[] from = new int[ROOM];
        private final int[] kind = new int[MOST_TELLINGS];
        private final int[] who = new int[MOST_TELLINGS];
        private final int[] what = new int[MOST_TELLINGS];
        private final int[] told = new int[MOST_TELLINGS];
        private int knownDay = NONE;
        private int knownSize;
        private int knownTellings;
        /** The least number of those who are ONE with each person. */
        private final int[] group = new int[ROOM];
        private final int[] death = new int[ROOM];
        private final long[] lowChildren = new long[ROOM];
        private final long[] highChildren = new long[ROOM];

        boolean has(int p) {
            return p >= 0 && p < size;
        }

        int add(int day) {
            if (size >= ROOM) {
                return FULL;
            }
            from[size] = day;
            size++;
            return size - 1;
        }

        int tell(int sort, int p, int q, int today) {
            if (tellings >= MOST_TELLINGS) {
                return FULL;
            }
            kind[tellings] = sort;
            who[tellings] = p;
            what[tellings] = q;
            told[tellings] = today;
            tellings++;
            return tellings;
        }

        void know(int day) {
            if (day == knownDay && size == knownSize && tellings == knownTellings) {
                return;
            }
            knownDay = day;
            knownSize = size;
            knownTellings = tellings;
            for (int p = 0; p < size; p++) {
                group[p] = p;
                death[p] = NONE;
                lowChildren[p] = 0L;
                highChildren[p] = 0L;
            }
            for (int t = 0; t < tellings; t++) {
                if (kind[t] == SAME && told[t] <= day) {
                    unite(group[who[t]], group[what[t]]);
                }
            }
            for (int t = 0; t < tellings; t++) {
                if (told[t] <= day) {
                    learn(t);
                }
            }
        }

        private void unite(int a, int b) {
            int least = Math.min(a, b);
            int other = Math.max(a, b);
            for (int p = other; p < size && a != b; p++) {
                if (group[p] == other) {
                    group[p] = least;
                }
            }
        }

        private void learn(int t) {
            int g = group[who[t]];
            if (kind[t] == DEAD && (death[g] == NONE || what[t] < death[g])) {
                death[g] = what[t];
            }
            if (kind[t] == CHILD) {
                int child = group[what[t]];
                if (child < 64) {
                    lowChildren[g] |= 1L << child;
                } else {
                    highChildren[g] |= 1L << child - 64;
                }
            }
        }

        int groupOf(int p) {
            return has(p) ? group[p] : NONE;
        }

        int deathOf(int p) {
            return has(p) ? death[group[p]] : NONE;
        }

        boolean isDeadBy(int p, int day) {
            return has(p) && death[group[p]] != NONE && death[group[p]] <= day;
        }

        /** Both are numbers of groups, as groupOf tells them. */
        boolean isChild(int parent, int child) {
            if (!has(parent) || !has(child)) {
                return false;
            }
            long bits = child < 64 ? lowChildren[parent] >>> child : highChildren[parent] >>> child - 64;
            return (bits & 1L) != 0L;
        }

        int quarrels(int day) {
            int found = 0;
            for (int t = 0; t < tellings; t++) {
                if (kind[t] == APART && told[t] <= day && group[who[t]] == group[what[t]]) {
                    found++;
                }
            }
            return found;
        }
    }

    /** LOTS, whence they came, their BOUNDS and ROOTS. */
    private static final class Lots {
        static final int ROOM = 60;
        static final int MOST_FEET = 999999;
        static final int MOST_LINES = 12;
        static final int LONGEST_LINE = 60;
        private static final int WAY = 100000;

        int size;
        private final long[] ways = Tape.codes("n e s w", 4);
        private final int[] feet = new int[ROOM];
        private final int[] from = new int[ROOM];
        private final int[] ended = new int[ROOM];
        private final int[] splitLack = new int[ROOM];
        private final int[] joinLack = new int[ROOM];
        /** The LINE of each, as bits. */
        final long[] origin = new long[ROOM];
        final int[] rootHolder = new int[ROOM];
        final int[] rootDay = new int[ROOM];
        final int[] sides = new int[ROOM];
        private final int[] cornerX = new int[ROOM];
        private final int[] cornerY = new int[ROOM];
        /** Of each line its way times 100000 and its feet, as about() tells it. */
        private final int[] lines = new int[ROOM * MOST_LINES];
        private final int[] draft = new int[MOST_LINES];
        private final int[] chosen = new int[4];
        private final int[] xs = new int[MOST_LINES + 1];
        private final int[] ys = new int[MOST_LINES + 1];
        private final int[] otherXs = new int[MOST_LINES + 1];
        private final int[] otherYs = new int[MOST_LINES + 1];

        static boolean isFeet(int n) {
            return n >= 1 && n <= MOST_FEET;
        }

        boolean has(int l) {
            return l >= 0 && l < size;
        }

        int room() {
            return ROOM - size;
        }

        int add(int squareFeet, int day, long before) {
            if (size >= ROOM) {
                return FULL;
            }
            feet[size] = squareFeet;
            from[size] = day;
            ended[size] = NONE;
            origin[size] = before | 1L << size;
            rootHolder[size] = NONE;
            size++;
            return size - 1;
        }

        void four(int a, int b, int c, int d) {
            chosen[0] = a;
            chosen[1] = b;
            chosen[2] = c;
            chosen[3] = d;
        }

        boolean fourAreFeet(int n) {
            for (int i = 0; i < n && i < 4; i++) {
                if (!isFeet(chosen[i])) {
                    return false;
                }
            }
            return true;
        }

        boolean fourAreLots(int n) {
            for (int i = 0; i < n && i < 4; i++) {
                if (!has(chosen[i])) {
                    return false;
                }
                for (int j = 0; j < i; j++) {
                    if (chosen[j] == chosen[i]) {
                        return false;
                    }
                }
            }
            return true;
        }

        boolean fourMayEnd(int n, int day) {
            for (int i = 0; i < n && i < 4; i++) {
                if (!mayEnd(chosen[i], day)) {
                    return false;
                }
            }
            return true;
        }

        boolean mayEnd(int l, int day) {
            return has(l) && ended[l] == NONE && from[l] <= day;
        }

        boolean isThere(int l, int day) {
            return isThereWithin(l, day, day);
        }

        boolean isThereWithin(int l, int first, int last) {
            return has(l) && from[l] <= last
                    && (ended[l] == NONE || Math.max(from[l], first) < ended[l]);
        }

        boolean isAmong(int l, long set) {
            return l >= 0 && l < size && (set >>> l & 1L) != 0L;
        }

        int divide(int l, int day, int n) {
            if (!has(l)) {
                return RANGE;
            }
            int first = size;
            int came = 0;
            for (int i = 0; i < n && i < 4; i++) {
                add(chosen[i], day, origin[l]);
                came += chosen[i];
            }
            ended[l] = day;
            splitLack[l] = feet[l] - came;
            return first;
        }

        int unite(int n, int day, int squareFeet) {
            int were = 0;
            long before = 0L;
            for (int i = 0; i < n && i < 4; i++) {
                int l = chosen[i];
                if (has(l)) {
                    were += feet[l];
                    before |= origin[l];
                    ended[l] = day;
                }
            }
            int l = add(squareFeet, day, before);
            if (has(l)) {
                joinLack[l] = were - squareFeet;
            }
            return l;
        }

        int tellAbout(int l, int what) {
            switch (what) {
                case 0: return feet[l];
                case 1: return from[l];
                case 2: return ended[l];
                case 3: return splitLack[l];
                case 4: return joinLack[l];
                case 5: return sides[l];
                case 6: return cornerX[l];
                case 7: return cornerY[l];
                default: break;
            }
            if (what >= 10 && what < 10 + MOST_LINES && what - 10 < sides[l]) {
                return lines[l * MOST_LINES + what - 10];
            }
            return NO_SUCH;
        }

        int readBounds(Tape tape, int l, int x, int y) {
            int n = readLines(tape);
            if (n == NONE || !has(l)) {
                return NONE;
            }
            System.arraycopy(draft, 0, lines, l * MOST_LINES, MOST_LINES);
            sides[l] = n;
            cornerX[l] = x;
            cornerY[l] = y;
            return n;
        }

        private int readLines(Tape tape) {
            tape.begin();
            for (int n = 0; n <= MOST_LINES; n++) {
                if (tape.kind == Tape.END && n > 0) {
                    return n;
                }
                if (!readLine(tape, n)) {
                    return NONE;
                }
                tape.step();
            }
            return NONE;
        }

        private boolean readLine(Tape tape, int n) {
            int way = 0;
            while (way < ways.length && !tape.isWord(ways[way])) {
                way++;
            }
            if (way >= ways.length) {
                return tape.wrong(Tape.SYNTAX);
            }
            if (n >= MOST_LINES) {
                return tape.wrong(Tape.NO_ROOM);
            }
            tape.step();
            if (tape.kind != Tape.NUMBER) {
                return tape.wrong(Tape.SYNTAX);
            }
            if (tape.number() < 1 || tape.number() > LONGEST_LINE) {
                return tape.wrong(Tape.OUT_OF_BOUNDS);
            }
            draft[n] = way * WAY + tape.number();
            tape.step();
            return tape.isSign(';') || tape.wrong(Tape.SYNTAX);
        }

        private int wayOf(int l, int i) {
            return lines[l * MOST_LINES + i] / WAY;
        }

        private int feetOf(int l, int i) {
            return lines[l * MOST_LINES + i] % WAY;
        }

        private int sumOfWay(int l, int way) {
            int sum = 0;
            for (int i = 0; i < sides[l]; i++) {
                if (wayOf(l, i) == way) {
                    sum += feetOf(l, i);
                }
            }
            return sum;
        }

        /** How far the BOUNDS go too far north (axis 0) or east (axis 1). */
        int miss(int l, int axis) {
            return sumOfWay(l, axis) - sumOfWay(l, axis + 2);
        }

        /**
         * The least sum of changes is the ERROR, and one line for each axis can bear it: where a
         * way to CLOSE exists at all, a line of the other way can be made as long as is needed.
         */
        int closeBounds(int l) {
            int north = miss(l, 0);
            int east = miss(l, 1);
            int northLine = lineToChange(l, 0, north);
            int eastLine = lineToChange(l, 1, east);
            if (north != 0 && northLine == NONE || east != 0 && eastLine == NONE) {
                return NONE;
            }
            changeLine(l, northLine, 0, north);
            changeLine(l, eastLine, 1, east);
            return Math.abs(north) + Math.abs(east);
        }

        /** The least row: the first line that can be made shorter, else the last made longer. */
        private int lineToChange(int l, int axis, int miss) {
            int tooLong = miss > 0 ? axis : axis + 2;
            int size = Math.abs(miss);
            int last = NONE;
            for (int i = 0; i < sides[l]; i++) {
                int way = wayOf(l, i);
                if (way == tooLong && feetOf(l, i) > size) {
                    return i;
                }
                if (way % 2 == axis && way != tooLong) {
                    last = i;
                }
            }
            return last;
        }

        private void changeLine(int l, int i, int axis, int miss) {
            if (i != NONE) {
                lines[l * MOST_LINES + i] += wayOf(l, i) == axis ? -miss : miss;
            }
        }

        private void trace(int l, int[] x, int[] y) {
            x[0] = cornerX[l];
            y[0] = cornerY[l];
            for (int i = 0; i < sides[l] && i < MOST_LINES; i++) {
                int way = wayOf(l, i);
                int far = feetOf(l, i);
                x[i + 1] = x[i] + (way == 1 ? far : way == 3 ? -far : 0);
                y[i + 1] = y[i] + (way == 0 ? far : way == 2 ? -far : 0);
            }
        }

        /** Whether the BOUNDS have an AREA. */
        boolean enclose(int l) {
            int n = sides[l];
            if (n < 4 || n > MOST_LINES || miss(l, 0) != 0 || miss(l, 1) != 0) {
                return false;
            }
            trace(l, xs, ys);
            for (int i = 0; i < n; i++) {
                int follower = i + 1 < n ? i + 1 : 0;
                if (wayOf(l, i) % 2 == wayOf(l, follower) % 2) {
                    return false;
                }
                for (int j = i + 2; j < n; j++) {
                    if ((i > 0 || j < n - 1) && meet(i, j)) {
                        return false;
                    }
                }
            }
            return true;
        }

        /** Lines along the axes are boxes without width: they meet if both their spans do. */
        private boolean meet(int i, int j) {
            return common(xs[i], xs[i + 1], xs[j], xs[j + 1]) >= 0
                    && common(ys[i], ys[i + 1], ys[j], ys[j + 1]) >= 0;
        }

        private static int common(int a, int b, int c, int d) {
            return Math.min(Math.max(a, b), Math.max(c, d)) - Math.max(Math.min(a, b), Math.min(c, d));
        }

        /**
         * Square feet within both of two that have an AREA. Each line north or south stands for
         * all that is east of it, counted with its way's sign: the sum over a closed row is what is
         * within, so the product over pairs of lines is what is within both.
         */
        int within(int l, int o) {
            trace(l, xs, ys);
            trace(o, otherXs, otherYs);
            int sum = 0;
            for (int i = 0; i < sides[l] && i < MOST_LINES; i++) {
                for (int j = 0; j < sides[o] && j < MOST_LINES; j++) {
                    int height = common(ys[i], ys[i + 1], otherYs[j], otherYs[j + 1]);
                    if (height > 0) {
                        int east = Math.max(xs[i], otherXs[j]) * height;
                        sum += wayOf(l, i) == wayOf(o, j) ? east : -east;
                    }
                }
            }
            return Math.abs(sum);
        }
    }

    /** PAPERS: what they say, their MARKS, and their WEIGHT by each ACT. */
    private static final class Papers {
        static final int ROOM = 120;
        static final int MOST_MARKS = 12;
        private static final int SLOTS = Acts.ROOM + 1;

        int size;
        int pageRoom = 20;
        final int[] kind = new int[ROOM];
        final int[] burnt = new int[ROOM];
        final int[] known = new int[ROOM];
        final int[] from = new int[ROOM];
        final int[] to = new int[ROOM];
        /** Who gave, who got, which LOT: three of each PAPER. */
        private final int[] said = new int[ROOM * 3];
        final int[] hand = new int[ROOM];
        final int[] writtenOn = new int[ROOM];
        /** The BOOK times 100 and the PAGE. */
        final int[] page = new int[ROOM];
        private final int[] markCount = new int[ROOM];
        private final long[] markWords = new long[ROOM * MOST_MARKS];
        private final int[] markNumbers = new int[ROOM * MOST_MARKS];
        private final long[] draftWords = new long[MOST_MARKS];
        private final int[] draftNumbers = new int[MOST_MARKS];
        private int draftCount;
        private final int[] weights = new int[ROOM * SLOTS];
        private final int[] stack = new int[32];

        boolean has(int k) {
            return k >= 0 && k < size;
        }

        /** 0 if the MARKS stand in the draft and there is room for a PAPER. */
        int readMarks(Tape tape) {
            tape.rewind();
            draftCount = 0;
            for (int i = 0; i < Tape.ROOM && tape.kind != Tape.END; i++) {
                if (!readMark(tape)) {
                    return NONE;
                }
            }
            return size >= ROOM ? FULL : 0;
        }

        private boolean readMark(Tape tape) {
            if (tape.kind != Tape.WORD || draftCount >= MOST_MARKS) {
                return false;
            }
            for (int i = 0; i < draftCount; i++) {
                if (draftWords[i] == tape.value) {
                    return false;
                }
            }
            draftWords[draftCount] = tape.value;
            draftNumbers[draftCount] = 1;
            tape.step();
            if (tape.isSign('=')) {
                tape.step();
                if (tape.kind != Tape.NUMBER) {
                    return false;
                }
                draftNumbers[draftCount] = tape.number();
                tape.step();
            }
            draftCount++;
            boolean closed = tape.isSign(';');
            tape.step();
            return closed;
        }

        int add(int sort, int b, int today) {
            if (size >= ROOM) {
                return FULL;
            }
            kind[size] = sort;
            burnt[size] = b;
            known[size] = today;
            hand[size] = NONE;
            markCount[size] = draftCount;
            System.arraycopy(draftWords, 0, markWords, size * MOST_MARKS, MOST_MARKS);
            System.arraycopy(draftNumbers, 0, markNumbers, size * MOST_MARKS, MOST_MARKS);
            size++;
            return size - 1;
        }

        void say(int k, int gave, int got, int l, int first, int last) {
            if (has(k)) {
                said[k * 3] = gave;
                said[k * 3 + 1] = got;
                said[k * 3 + 2] = l;
                from[k] = first;
                to[k] = last;
            }
        }

        /** What a PAPER says of who gave (0), who got (1), which LOT (2). */
        int saying(int k, int aspect) {
            return has(k) && aspect >= 0 && aspect < 3 ? said[k * 3 + aspect] : NONE;
        }

        void sign(int k, int writer, int day, int bookAndPage) {
            if (has(k)) {
                hand[k] = writer;
                writtenOn[k] = day;
                page[k] = bookAndPage;
            }
        }

        int mark(int k, long word) {
            if (!has(k)) {
                return 0;
            }
            for (int i = 0; i < markCount[k]; i++) {
                if (markWords[k * MOST_MARKS + i] == word) {
                    return markNumbers[k * MOST_MARKS + i];
                }
            }
            return 0;
        }

        /** MARKS and ACTS never change, so each WEIGHT is found once, when one of both comes. */
        void weigh(int k, Acts acts) {
            for (int a = 1; a <= acts.size && a < SLOTS; a++) {
                weighBy(k, a, acts);
            }
        }

        void weighAll(Acts acts) {
            for (int k = 0; k < size; k++) {
                weighBy(k, acts.size, acts);
            }
        }

        private void weighBy(int k, int a, Acts acts) {
            if (has(k) && a > 0 && a < SLOTS) {
                weights[k * SLOTS + a] = acts.slot(a).weightOf(this, k, stack);
            }
        }

        int weightBy(int k, int a) {
            return has(k) && a >= 0 && a < SLOTS ? weights[k * SLOTS + a] : 0;
        }
    }

    /** BURNT ones, and what PAPERS show of them as KNOWN on the day asked last. */
    private static final class Evidence {
        static final int ROOM = 30;
        static final int FACTS = 10;
        static final int GAVE = 0;
        static final int GOT = 1;
        static final int LOT = 2;
        static final int FIRST_DAY = 3;
        static final int LAST = 4;
        static final int POINTS_OF = 5;
        static final int POINTS = 8;
        static final int QUARRELS = 9;

        int burnts;
        private final People people;
        private final Lots lots;
        private final Papers papers;
        private final Acts acts;
        private boolean fresh;
        private int day;
        private int actNumber;
        /** What shown() tells, ten of each BURNT one. */
        private final int[] facts = new int[ROOM * FACTS];
        /** Which PAPERS are KNOWN and can be. */
        private final boolean[] trusted = new boolean[Papers.ROOM];
        /** Those of one BURNT one. */
        private final int[] witnesses = new int[Papers.ROOM];
        private int witnessCount;
        private final int[] oathWeights = new int[Papers.ROOM];

        Evidence(People people, Lots lots, Papers papers, Acts acts) {
            this.people = people;
            this.lots = lots;
            this.papers = papers;
            this.acts = acts;
        }

        int addBurnt() {
            if (burnts >= ROOM) {
                return FULL;
            }
            burnts++;
            return burnts - 1;
        }

        int fact(int b, int what) {
            return b >= 0 && b < burnts && what >= 0 && what < FACTS ? facts[b * FACTS + what] : NONE;
        }

        /** What was told changed: the facts must be found again. */
        void forget() {
            fresh = false;
        }

        /** The ACT IN FORCE on the day asked last. */
        Act actThen() {
            return acts.slot(actNumber);
        }

        void know(int known) {
            people.know(known);
            if (fresh && known == day) {
                return;
            }
            fresh = true;
            day = known;
            actNumber = acts.numberInForce(known);
            for (int k = 0; k < papers.size; k++) {
                trusted[k] = papers.known[k] <= day && reason(k, day) == 0;
            }
            for (int b = 0; b < burnts; b++) {
                findWitnesses(b);
                facts[b * FACTS + QUARRELS] = 0;
                for (int aspect = GAVE; aspect <= LOT; aspect++) {
                    decide(b * FACTS, aspect);
                }
                findSpan(b * FACTS);
                facts[b * FACTS + POINTS] = Math.min(facts[b * FACTS + POINTS_OF + GAVE],
                        Math.min(facts[b * FACTS + POINTS_OF + GOT], facts[b * FACTS + POINTS_OF + LOT]));
            }
        }

        private void findWitnesses(int b) {
            witnessCount = 0;
            for (int k = 0; k < papers.size; k++) {
                if (papers.burnt[k] == b && trusted[k]) {
                    witnesses[witnessCount] = k;
                    witnessCount++;
                }
            }
        }

        /** Why a PAPER CAN'T BE; people.know has been called for the same day. */
        int reason(int k, int known) {
            if (papers.hand[k] != NONE
                    && !livesWithin(papers.hand[k], papers.writtenOn[k], papers.writtenOn[k])) {
                return 1;
            }
            int l = papers.saying(k, LOT);
            if (l != NONE && !lots.isThereWithin(l, papers.from[k], papers.to[k])) {
                return 2;
            }
            if (!livesWithin(papers.saying(k, GAVE), papers.from[k], papers.to[k])) {
                return 3;
            }
            if (!livesWithin(papers.saying(k, GOT), papers.from[k], papers.to[k])) {
                return 4;
            }
            return papers.hand[k] != NONE && isPageFull(k, known) ? 5 : 0;
        }

        /** NONE is passed by: of nobody nothing can be wrong. */
        private boolean livesWithin(int p, int first, int last) {
            return !people.has(p) || people.from[p] <= last && !people.isDeadBy(p, first - 1);
        }

        private boolean isPageFull(int k, int known) {
            int before = 0;
            for (int j = 0; j < k; j++) {
                if (papers.hand[j] != NONE && papers.page[j] == papers.page[k] && papers.known[j] <= known) {
                    before++;
                }
            }
            return before >= papers.pageRoom;
        }

        /** A thing said as one number: persons who are ONE are one. */
        private int thing(int k, int aspect) {
            int said = papers.saying(k, aspect);
            return aspect == LOT ? said : people.groupOf(said);
        }

        private void decide(int at, int aspect) {
            int best = 0;
            int ties = 0;
            int bestThing = NONE;
            for (int i = 0; i < witnessCount; i++) {
                int thing = thing(witnesses[i], aspect);
                if (thing != NONE && !wasSaid(i, thing, aspect)) {
                    int sum = sumOf(thing, aspect);
                    if (sum > best) {
                        best = sum;
                        ties = 0;
                        bestThing = thing;
                    }
                    ties += sum == best ? 1 : 0;
                }
            }
            boolean enough = best > 0 && best >= actThen().told(Act.LEAST);
            boolean sole = enough && ties == 1;
            facts[at + aspect] = sole ? leastNumber(bestThing, aspect) : NONE;
            facts[at + POINTS_OF + aspect] = sole ? best : 0;
            if (enough && !sole) {
                facts[at + QUARRELS] |= 1 << aspect;
            }
        }

        private boolean wasSaid(int before, int thing, int aspect) {
            for (int i = 0; i < before; i++) {
                if (thing(witnesses[i], aspect) == thing) {
                    return true;
                }
            }
            return false;
        }

        private int sumOf(int thing, int aspect) {
            int sum = 0;
            int oaths = 0;
            for (int i = 0; i < witnessCount; i++) {
                int k = witnesses[i];
                if (thing(k, aspect) == thing) {
                    int weight = papers.weightBy(k, actNumber);
                    if (papers.kind[k] == Acts.OATH) {
                        oathWeights[oaths] = weight;
                        oaths++;
                    } else {
                        sum += weight;
                    }
                }
            }
            return sum + greatestOaths(oaths);
        }

        private int greatestOaths(int n) {
            int sum = 0;
            int limit = Math.min(n, actThen().told(Act.OATHS));
            for (int i = 0; i < limit; i++) {
                int greatest = i;
                for (int j = i + 1; j < n; j++) {
                    if (oathWeights[j] > oathWeights[greatest]) {
                        greatest = j;
                    }
                }
                int weight = oathWeights[greatest];
                oathWeights[greatest] = oathWeights[i];
                sum += weight;
            }
            return sum;
        }

        private int leastNumber(int thing, int aspect) {
            int least = People.ROOM + Lots.ROOM;
            for (int i = 0; i < witnessCount; i++) {
                if (thing(witnesses[i], aspect) == thing) {
                    least = Math.min(least, papers.saying(witnesses[i], aspect));
                }
            }
            return least;
        }

        private void findSpan(int at) {
            int first = 0;
            int last = LAST_DAY;
            for (int i = 0; i < witnessCount; i++) {
                int k = witnesses[i];
                if (papers.weightBy(k, actNumber) > 0) {
                    first = Math.max(first, papers.from[k]);
                    last = Math.min(last, papers.to[k]);
                }
            }
            boolean quarrel = first > last;
            facts[at + FIRST_DAY] = quarrel ? 0 : first;
            facts[at + LAST] = quarrel ? LAST_DAY : last;
            if (quarrel) {
                facts[at + QUARRELS] |= 8;
            }
        }

        /** How many years one HELD a LOT through, up to a year, as KNOWN on the day asked last. */
        int yearsHeld(int l, int p, int year) {
            int taxed = 0;
            for (int k = 0; k < papers.size; k++) {
                if (papers.kind[k] == Acts.TAX && isTaxOf(k, l, p)) {
                    taxed |= years(papers.from[k] / YEAR, papers.to[k] / YEAR);
                }
            }
            int held = 0;
            for (int y = year; y >= 0 && (taxed >> y & 1) != 0; y--) {
                held++;
            }
            return held;
        }

        private boolean isTaxOf(int k, int l, int p) {
            int taxed = papers.saying(k, LOT);
            return lots.isAmong(taxed, lots.origin[l]) && trusted[k] && papers.weightBy(k, actNumber) > 0
                    && thing(k, GOT) == people.groupOf(p);
        }

        private static int years(int first, int last) {
            int bits = 0;
            for (int y = first; y <= last && y <= LAST_YEAR; y++) {
                bits |= 1 << y;
            }
            return bits;
        }
    }

    /** CHAINS of a LOT to one, by the evidence as KNOWN on the day asked last. */
    private static final class Chains {
        static final int MOST_LINKS = 8;
        static final int GAPS = 0;
        static final int WEAKEST = 1;
        static final int LINKS = 2;
        static final int ROOT_LOT = 3;
        static final int ROW = 4;
        private static final int WITHOUT_LINKS = 999;
        private static final int MOST = Evidence.ROOM;

        private final People people;
        private final Lots lots;
        private final Evidence evidence;
        private boolean heirs;
        private int asked;
        /** LOTS of the LINE that have a ROOT, as bits. */
        private long roots;
        /** BURNT ones that may be LINKS, in order, and the data of each. */
        private int size;
        private final int[] burnt = new int[MOST];
        private final int[] begin = new int[MOST];
        private final int[] finish = new int[MOST];
        private final int[] points = new int[MOST];
        private final int[] gave = new int[MOST];
        private final int[] got = new int[MOST];
        /** LINKS with which the CHAIN may end, as bits. */
        private int enders;
        /** LINKS that follow a holder without a GAP, as bits: of each LINK's holder, then of each LOT's ROOT. */
        private final int[] followers = new int[MOST + Lots.ROOM];
        /**
         * Of LINKS to come and a LINK: the latest begin with which the CHAIN can still be ended
         * from that LINK on without a GAP; NONE if with none. (An earlier begin is never worse.)
         */
        private final int[] latest = new int[MOST_LINKS * MOST];
        private final int[] sorted = new int[MOST];
        private final int[] row = new int[MOST_LINKS];
        final int[] found = new int[ROW + MOST_LINKS];
        private final int[] remembered = new int[ROW + MOST_LINKS];

        Chains(People people, Lots lots, Evidence evidence) {
            this.people = people;
            this.lots = lots;
            this.evidence = evidence;
            remembered[ROOT_LOT] = NONE;
        }

        void remember() {
            System.arraycopy(found, 0, remembered, 0, found.length);
        }

        int recall(int what) {
            if (remembered[ROOT_LOT] == NONE) {
                return NONE;
            }
            if (what >= GAPS && what <= ROOT_LOT) {
                return remembered[what];
            }
            boolean isLink = what >= 10 && what < 10 + MOST_LINKS && what - 10 < remembered[LINKS];
            return isLink ? remembered[ROW + what - 10] : NONE;
        }

        /**
         * The GAPS of the BEST CHAIN, which then stands in found; NONE. A CHAIN with GAPS is at
         * best its last LINK alone: that has one GAP at most, no lesser WEAKEST, no more LINKS.
         */
        int search(int l, int p) {
            gather(l, p);
            int bare = lotOfBareChain();
            int weakest = greatestWeakest(bare == NONE ? 0 : WITHOUT_LINKS + 1);
            if (weakest != NONE) {
                fill(weakest);
                int links = shortest();
                tell(0, weakest, links, firstRoot(links));
                layRow(links);
                return 0;
            }
            if (bare != NONE) {
                tell(0, WITHOUT_LINKS, 0, bare);
                return 0;
            }
            return takeLinkWithGap() ? 1 : NONE;
        }

        private void tell(int gaps, int weakest, int links, int rootLot) {
            found[GAPS] = gaps;
            found[WEAKEST] = weakest;
            found[LINKS] = links;
            found[ROOT_LOT] = rootLot;
        }

        private void gather(int l, int p) {
            heirs = evidence.actThen().told(Act.HEIRS) == 1;
            asked = people.groupOf(p);
            long origin = lots.origin[l];
            size = 0;
            enders = 0;
            for (int b = 0; b < evidence.burnts; b++) {
                if (lots.isAmong(evidence.fact(b, Evidence.LOT), origin) && evidence.fact(b, Evidence.GOT) != NONE) {
                    addLink(b);
                }
            }
            for (int c = 0; c < size; c++) {
                followers[c] = linksAfter(got[c]);
                enders |= endsWith(got[c]) ? 1 << c : 0;
            }
            roots = 0L;
            for (int o = 0; o < lots.size; o++) {
                if (lots.isAmong(o, origin) && lots.rootHolder[o] != NONE) {
                    roots |= 1L << o;
                    followers[MOST + o] = linksAfter(people.groupOf(lots.rootHolder[o]));
                }
            }
        }

        private void addLink(int b) {
            if (size < MOST) {
                burnt[size] = b;
                begin[size] = evidence.fact(b, Evidence.FIRST_DAY);
                finish[size] = evidence.fact(b, Evidence.LAST);
                points[size] = evidence.fact(b, Evidence.POINTS);
                gave[size] = people.groupOf(evidence.fact(b, Evidence.GAVE));
                got[size] = people.groupOf(evidence.fact(b, Evidence.GOT));
                size++;
            }
        }

        private int linksAfter(int holder) {
            int bits = 0;
            for (int d = 0; d < size; d++) {
                boolean inherited = heirs && people.isDeadBy(holder, finish[d])
                        && people.isChild(holder, gave[d]);
                boolean follows = gave[d] != NONE && (gave[d] == holder || inherited);
                bits |= follows ? 1 << d : 0;
            }
            return bits;
        }

        private boolean endsWith(int holder) {
            return holder == asked
                    || heirs && people.deathOf(holder) != NONE && people.isChild(holder, asked);
        }

        private boolean isRoot(int l) {
            return (roots >>> l & 1L) != 0L;
        }

        private boolean isEnder(int c) {
            return (enders >>> c & 1) != 0;
        }

        private int lotOfBareChain() {
            for (int l = 0; l < lots.size; l++) {
                if (isRoot(l) && endsWith(people.groupOf(lots.rootHolder[l]))) {
                    return l;
                }
            }
            return NONE;
        }

        /** One LINK of the most POINTS, where no CHAIN without a GAP is. */
        private boolean takeLinkWithGap() {
            int best = NONE;
            for (int l = 0; l < lots.size; l++) {
                for (int d = 0; d < size && isRoot(l); d++) {
                    if (isEnder(d) && lots.rootDay[l] <= finish[d] && points[d] > best) {
                        best = points[d];
                        tell(1, best, 1, l);
                        found[ROW] = burnt[d];
                    }
                }
            }
            return best != NONE;
        }

        /** Of CHAINS without a GAP, of LINKS with POINTS of least or more; NONE if there is none. */
        private int greatestWeakest(int least) {
            fill(least);
            if (shortest() == 0) {
                return NONE;
            }
            int low = 0;
            int high = sortPoints(least) - 1;
            for (int i = 0; i < MOST && low < high; i++) {
                int middle = (low + high + 1) / 2;
                fill(sorted[middle]);
                if (shortest() > 0) {
                    low = middle;
                } else {
                    high = middle - 1;
                }
            }
            return sorted[low];
        }

        private int sortPoints(int least) {
            int n = 0;
            for (int c = 0; c < size; c++) {
                if (points[c] >= least) {
                    int at = n;
                    for (; at > 0 && sorted[at - 1] > points[c]; at--) {
                        sorted[at] = sorted[at - 1];
                    }
                    sorted[at] = points[c];
                    n++;
                }
            }
            return n;
        }

        private int mostLinks() {
            return Math.min(size, MOST_LINKS);
        }

        /**
         * For LINKS with POINTS of least or more. That each is taken once needs no care: what goes
         * from a LINK back to itself can be left out, and then there are fewer LINKS.
         */
        private void fill(int least) {
            for (int toCome = 0; toCome < mostLinks(); toCome++) {
                for (int c = 0; c < size; c++) {
                    int day = toCome > 0 ? latestOf(toCome, c) : isEnder(c) ? LAST_DAY : NONE;
                    latest[toCome * MOST + c] = points[c] >= least ? day : NONE;
                }
            }
        }

        private int latestOf(int toCome, int c) {
            int day = NONE;
            for (int d = 0; d < size; d++) {
                int then = latest[(toCome - 1) * MOST + d];
                if ((followers[c] >>> d & 1) != 0 && then >= begin[d]) {
                    day = Math.max(day, Math.min(then, finish[d]));
                }
            }
            return day;
        }

        /** How many LINKS the shortest CHAIN has, by what was filled; 0: there is none. */
        private int shortest() {
            for (int links = 1; links <= mostLinks(); links++) {
                if (firstRoot(links) != NONE) {
                    return links;
                }
            }
            return 0;
        }

        private int firstRoot(int links) {
            for (int l = 0; l < lots.size; l++) {
                if (isRoot(l) && leastNext(MOST + l, lots.rootDay[l], links) != NONE) {
                    return l;
                }
            }
            return NONE;
        }

        /** The first LINK by which a CHAIN of so many more LINKS can go on without a GAP. */
        private int leastNext(int from, int day, int links) {
            for (int d = 0; d < size && links > 0; d++) {
                int then = latest[(links - 1) * MOST + d];
                if ((followers[from] >>> d & 1) != 0 && day <= finish[d] && day <= then && begin[d] <= then) {
                    return d;
                }
            }
            return NONE;
        }

        private void layRow(int links) {
            int l = found[ROOT_LOT];
            int from = MOST + l;
            int day = lots.has(l) ? lots.rootDay[l] : 0;
            for (int i = 0; i < links && from != NONE; i++) {
                from = leastNext(from, day, links - i);
                if (from != NONE) {
                    found[ROW + i] = burnt[from];
                    day = Math.max(day, begin[from]);
                }
            }
        }

        /** The fewest GAPS of a CHAIN of just the LINKS that the bytes of the tape tell; NONE. */
        int judgeRow(int l, int p, Tape tape) {
            gather(l, p);
            int n = tape.length;
            for (int i = 0; i < n; i++) {
                int link = linkOf(tape.byteAt(i) - '0');
                if (i >= MOST_LINKS || link == NONE) {
                    return NONE;
                }
                for (int j = 0; j < i; j++) {
                    if (row[j] == link) {
                        return NONE;
                    }
                }
                row[i] = link;
            }
            if (n == 0) {
                return lotOfBareChain() == NONE ? NONE : 0;
            }
            return isEnder(row[n - 1]) ? fewestOfRow(n) : NONE;
        }

        private int linkOf(int b) {
            for (int c = 0; c < size; c++) {
                if (burnt[c] == b) {
                    return c;
                }
            }
            return NONE;
        }

        private int fewestOfRow(int n) {
            int fewest = NONE;
            for (int l = 0; l < lots.size; l++) {
                int gaps = isRoot(l) ? gapsOfRow(l, n) : NONE;
                if (gaps != NONE && (fewest == NONE || gaps < fewest)) {
                    fewest = gaps;
                }
            }
            return fewest;
        }

        private int gapsOfRow(int root, int n) {
            int from = MOST + root;
            int day = lots.rootDay[root];
            int gaps = 0;
            for (int i = 0; i < n && i < MOST_LINKS; i++) {
                int d = row[i];
                if (finish[d] < day) {
                    return NONE;
                }
                gaps += 1 - (followers[from] >>> d & 1);
                day = Math.max(day, begin[d]);
                from = d;
            }
            return gaps;
        }
    }

    /** MORTGAGES; to whom and of how many pounds no answer tells. */
    private static final class Mortgages {
        static final int ROOM = 40;

        int size;
        private final Lots lots;
        private final Acts acts;
        private final int[] lot = new int[ROOM];
        private final int[] made = new int[ROOM];
        private final int[] till = new int[ROOM];
        private final int[] paidOn = new int[ROOM];
        private final int[] paidKnown = new int[ROOM];

        Mortgages(Lots lots, Acts acts) {
            this.lots = lots;
            this.acts = acts;
        }

        boolean has(int m) {
            return m >= 0 && m < size;
        }

        int add(int l, int day, int last) {
            if (size >= ROOM) {
                return FULL;
            }
            lot[size] = l;
            made[size] = day;
            till[size] = last;
            paidOn[size] = NONE;
            size++;
            return size - 1;
        }

        int pay(int m, int day, int today) {
            if (paidOn[m] != NONE) {
                return STATE;
            }
            paidOn[m] = day;
            paidKnown[m] = today;
            return 1;
        }

        boolean isStanding(int m, int day, int known) {
            int years = acts.inForce(known).told(Act.YEARS);
            boolean isPaid = paidOn[m] != NONE && paidOn[m] <= day && paidKnown[m] <= known;
            return made[m] <= day && !isPaid && day - till[m] <= years * YEAR;
        }

        int ahead(int m, int day, int known) {
            long origin = lots.origin[lot[m]];
            int before = 0;
            for (int o = 0; o < size; o++) {
                boolean earlier = made[o] < made[m] || made[o] == made[m] && o < m;
                if (earlier && lots.isAmong(lot[o], origin) && isStanding(o, day, known)) {
                    before++;
                }
            }
            return before;
        }
    }

    /** CLAIMS, rulings, and the COIN. */
    private static final class Claims {
        static final int ROOM = 30;
        static final int MOST_COIN = 9999999;
        static final int UNRULED = 0;
        static final int SURE = 1;
        static final int DOUBT = 2;
        static final int NOT = 3;
        private static final int NO_CHAIN_GAPS = 99;

        int size;
        int coin;
        private final Acts acts;
        private final Evidence evidence;
        private final Chains chains;
        final int[] person = new int[ROOM];
        private final int[] lot = new int[ROOM];
        private final int[] noticed = new int[ROOM];
        private final int[] state = new int[ROOM];
        private final int[] pounds = new int[ROOM];
        /** Of each LOT the CLAIM that has it and 1, so that 0 is none. */
        private final int[] winner = new int[Lots.ROOM];
        private final int[] ruledOn = new int[Lots.ROOM];
        private final int[] doubtDays = new int[Lots.ROOM];
        private int gaps;
        private int weakest;

        Claims(Acts acts, Evidence evidence, Chains chains) {
            this.acts = acts;
            this.evidence = evidence;
            this.chains = chains;
        }

        boolean has(int c) {
            return c >= 0 && c < size;
        }

        int add(int p, int l, int today) {
            if (size >= ROOM) {
                return FULL;
            }
            person[size] = p;
            lot[size] = l;
            noticed[size] = today;
            size++;
            return size - 1;
        }

        int putCoin(int more) {
            if (coin + more > MOST_COIN) {
                return RANGE;
            }
            coin += more;
            return coin;
        }

        boolean isRuled(int l) {
            return winner[l] > 0;
        }

        int winnerOf(int l) {
            return winner[l] - 1;
        }

        /** Ruled with DOUBT, and not yet SURE by time. */
        boolean isDoubtful(int l, int today) {
            int c = winnerOf(l);
            return has(c) && state[c] == DOUBT && today - ruledOn[l] < doubtDays[l];
        }

        private int stateOf(int c, int today) {
            return state[c] == DOUBT && !isDoubtful(lot[c], today) ? SURE : state[c];
        }

        int countThat(int wanted, int today) {
            int found = 0;
            for (int c = 0; c < size; c++) {
                if (stateOf(c, today) == wanted) {
                    found++;
                }
            }
            return found;
        }

        int tellAbout(int c, int what, int today) {
            switch (what) {
                case 0: return person[c];
                case 1: return lot[c];
                case 2: return noticed[c];
                case 3: return stateOf(c, today);
                case 4: return pounds[c];
                default: return NO_SUCH;
            }
        }

        int tellRuling(int l, int what, int today) {
            int c = winnerOf(l);
            switch (what) {
                case 0: return c;
                case 1: return ruledOn[l];
                case 2: return has(c) ? stateOf(c, today) : NONE;
                default: return NONE;
            }
        }

        /** What a CLAIM is WORTH today; its GAPS and WEAKEST stay told for the choice. */
        int appraise(int c, int today) {
            Act act = acts.inForce(today);
            boolean linked = chains.search(lot[c], person[c]) != NONE;
            gaps = linked ? chains.found[Chains.GAPS] : NO_CHAIN_GAPS;
            weakest = linked ? chains.found[Chains.WEAKEST] : 0;
            boolean close = linked && gaps <= act.told(Act.GAP);
            if (close && weakest >= act.told(Act.SURE)) {
                return SURE;
            }
            if (close && weakest >= act.told(Act.DOUBT)) {
                return DOUBT;
            }
            int years = evidence.yearsHeld(lot[c], person[c], today / YEAR);
            return years >= act.told(Act.LONG) ? DOUBT : NOT;
        }

        int hear(int l, int today) {
            int notice = acts.inForce(today).told(Act.NOTICE);
            int heard = 0;
            int best = NONE;
            int bestWorth = NOT;
            int bestGaps = 0;
            int bestWeakest = 0;
            for (int c = 0; c < size; c++) {
                if (lot[c] != l || state[c] != UNRULED || today - noticed[c] < notice) {
                    continue;
                }
                heard++;
                state[c] = NOT;
                int worth = appraise(c, today);
                boolean better = worth < bestWorth || worth == bestWorth
                        && (gaps < bestGaps || gaps == bestGaps && weakest > bestWeakest);
                if (worth != NOT && better) {
                    best = c;
                    bestWorth = worth;
                    bestGaps = gaps;
                    bestWeakest = weakest;
                }
            }
            if (best != NONE) {
                award(l, best, bestWorth, today);
            }
            return heard;
        }

        private void award(int l, int c, int worth, int today) {
            state[c] = worth;
            winner[l] = c + 1;
            ruledOn[l] = today;
            doubtDays[l] = acts.inForce(today).told(Act.YEARS) * YEAR;
        }

        int reopen(int l, int today) {
            int c = winnerOf(l);
            if (!has(c)) {
                return 0;
            }
            int due = Math.min(coin, acts.inForce(today).told(Act.FUND));
            coin -= due;
            pounds[c] += due;
            winner[l] = 0;
            for (int o = 0; o < size; o++) {
                if (lot[o] == l) {
                    state[o] = UNRULED;
                }
            }
            return 1;
        }

        boolean mustReopen(int l, int today) {
            int c = winnerOf(l);
            for (int o = 0; o < size; o++) {
                if (lot[o] == l && appraise(o, today) == (o == c ? NOT : SURE)) {
                    return true;
                }
            }
            return false;
        }
    }

    /** PLACES to look, and which of them SETTLE most. */
    private static final class Places {
        static final int ROOM = 12;

        int size;
        private final Acts acts;
        private final Evidence evidence;
        private final Chains chains;
        private final Claims claims;
        private final int[] cost = new int[ROOM];
        private final int[] burnt = new int[ROOM];
        private final int[] points = new int[ROOM];
        private final int[] added = new int[Evidence.ROOM];
        /** Of each LOT that could be settled (each by another CLAIM): its LINKS that lack POINTS, and how many. */
        private int cases;
        private final int[] lackCount = new int[Claims.ROOM];
        private final int[] lackBurnt = new int[Claims.ROOM * Chains.MOST_LINKS];
        private final int[] lackPoints = new int[Claims.ROOM * Chains.MOST_LINKS];
        private boolean hasLooked;
        private int lookedSet;
        private int lookedCost;

        Places(Acts acts, Evidence evidence, Chains chains, Claims claims) {
            this.acts = acts;
            this.evidence = evidence;
            this.chains = chains;
            this.claims = claims;
        }

        int add(int pounds, int b, int more) {
            if (size >= ROOM) {
                return FULL;
            }
            cost[size] = pounds;
            burnt[size] = b;
            points[size] = more;
            size++;
            hasLooked = false;
            return size - 1;
        }

        int recall(int what) {
            if (!hasLooked) {
                return NONE;
            }
            return what == 0 ? lookedSet : what == 1 ? lookedCost : NONE;
        }

        private void gather(int today) {
            cases = 0;
            for (int l = 0; l < Lots.ROOM && cases < Claims.ROOM; l++) {
                if (claims.isDoubtful(l, today)) {
                    int p = claims.person[claims.winnerOf(l)];
                    if (chains.search(l, p) != NONE && addCase(acts.inForce(today))) {
                        cases++;
                    }
                }
            }
        }

        /** False if no points make the CHAIN found SURE: nothing is added to what isn't SHOWN. */
        private boolean addCase(Act act) {
            int sure = act.told(Act.SURE);
            int links = chains.found[Chains.LINKS];
            if (chains.found[Chains.GAPS] > act.told(Act.GAP) || chains.found[Chains.WEAKEST] < sure && links == 0) {
                return false;
            }
            lackCount[cases] = 0;
            for (int i = 0; i < links && i < Chains.MOST_LINKS; i++) {
                int b = chains.found[Chains.ROW + i];
                int has = evidence.fact(b, Evidence.POINTS);
                if (has < sure) {
                    if (has <= 0) {
                        return false;
                    }
                    int at = cases * Chains.MOST_LINKS + lackCount[cases];
                    lackBurnt[at] = b;
                    lackPoints[at] = sure - has;
                    lackCount[cases]++;
                }
            }
            return true;
        }

        private int settled() {
            int found = 0;
            for (int i = 0; i < cases; i++) {
                boolean enough = true;
                for (int j = 0; j < lackCount[i] && enough; j++) {
                    int at = i * Chains.MOST_LINKS + j;
                    enough = added[lackBurnt[at]] >= lackPoints[at];
                }
                found += enough ? 1 : 0;
            }
            return found;
        }

        int settledBy(int set, int today) {
            gather(today);
            Arrays.fill(added, 0);
            for (int i = 0; i < size; i++) {
                if ((set >> i & 1) != 0) {
                    added[burnt[i]] += points[i];
                }
            }
            return settled();
        }

        /** Sets go by as a counter does: what each adds follows from the bits that turn. */
        int bestWithin(int sum, int today) {
            gather(today);
            Arrays.fill(added, 0);
            int best = NONE;
            int spent = 0;
            for (int set = 0; set < 1 << size; set++) {
                if (set > 0) {
                    spent += turn(set - 1, set);
                }
                int found = spent <= sum ? settled() : NONE;
                if (found > best || found == best && found != NONE && spent < lookedCost) {
                    best = found;
                    lookedSet = set;
                    lookedCost = spent;
                }
            }
            hasLooked = true;
            return best;
        }

        /** How much more the set costs than the one before it. */
        private int turn(int before, int set) {
            int more = 0;
            for (int i = 0; i < size && (before ^ set) >> i != 0; i++) {
                int sign = (set >> i & 1) != 0 ? 1 : -1;
                added[burnt[i]] += sign * points[i];
                more += sign * cost[i];
            }
            return more;
        }
    }
}
