/** Boundary cases of promises 23 to 25: the text of THE ACT, its FAULTS, what is IN FORCE. */
public final class ActEdgesTest extends Edges {
    private static final String[] CLAUSES = {"least", "sure", "doubt", "gap", "notice", "long", "years", "oaths", "heirs", "fund"};
    private static final int[] LOW = {0, 0, 0, 0, 0, 1, 1, 0, 0, 0};
    private static final int[] HIGH = {999, 999, 999, 20, 999, 99, 99, 20, 0, 9999};
    private static final int HEIRS = 8;
    private static final String WHEN = "proof tax 1 when ";

    public static void main(String[] args) {
        run(ActEdgesTest.class, 23, 25);
    }

    private static Hall good(String text, int clauses) {
        Hall x = new Hall();
        is("act " + text, x.act(text), clauses);
        is("no FAULT of " + text, x.fault(0), 0);
        is("no PLACE of " + text, x.fault(1), NONE);
        is("an ACT by " + text, x.count(4), 1);
        is("emptied by " + text, x.count(11), 0);
        return x;
    }

    private static void bad(String text, int kind, int place) {
        Hall x = new Hall();
        is("act " + text, x.act(text), NONE);
        is("kind of " + text, x.fault(0), kind);
        is("place of " + text, x.fault(1), place);
        is("no ACT by " + text, x.count(4), 0);
        is("emptied by " + text, x.count(11), 0);
    }

    static void p23NoClause() {
        good("", 0);
        good(" \n ", 0);
        good(times(" ", 1000), 0);
    }

    static void p23EmptyIsAnAct() {
        Hall x = new Hall();
        x.act("least 5;");
        is("an empty one", x.act(""), 0);
        is("two ACTS", x.count(4), 2);
        is("what isn't told", x.rule(0, 0), 1);
    }

    static void p23MostClauses() {
        Hall x = good("least 5;sure 6;doubt 7;gap 8;notice 9;long 10;years 11;oaths 12;heirs;fund 13;"
                + times("proof tax 1;", 24), 34);
        int[] told = {5, 6, 7, 8, 9, 10, 11, 12, 1, 13, 24};
        for (int what = 0; what < told.length; what++) is("rule " + what, x.rule(0, what), told[what]);
    }

    static void p23EighthAndNinth() {
        Hall x = new Hall();
        for (int i = 0; i < 8; i++) {
            is("ACT " + i, x.act("gap " + i + ";"), 1);
            is("ACTS", x.count(4), i + 1);
        }
        is("the ninth", x.act("gap 9;sure 1;"), FULL);
        is("it empties THE TAPE", x.count(11), 0);
        is("ACTS", x.count(4), 8);
        is("the eighth stays", x.rule(0, 3), 7);
        is("nothing of the ninth", x.rule(0, 1), 20);
        is("an empty ninth", x.act(""), FULL);
        is("a ninth with a FAULT", x.act("gap 21;"), NONE);
        is("its kind", x.fault(0), 2);
        is("its place", x.fault(1), 4);
        is("the eighth stays still", x.rule(9999, 3), 7);
    }

    static void p23NinthLeavesWhatIsntTold() {
        int[] untold = {1, 20, 8, 2, 30, 20, 10, 2, 0, 0, 0};
        String all = "least 9;sure 9;doubt 9;gap 9;notice 9;long 9;years 9;oaths 9;heirs;fund 9;proof tax 9;";
        Hall x = new Hall();
        x.paper(4, NONE, NONE, NONE, NONE, 0, 0);
        x.pass(10);
        for (int i = 0; i < 8; i++) x.act("proof tax 5;");
        is("the ninth", x.act(all), FULL);
        is("a ninth with a FAULT", x.act(all + "?"), NONE);
        for (int what = 0; what < untold.length; what++) {
            is("ahead of any, " + what, x.rule(9, what), untold[what]);
            is("by the eighth, " + what, x.rule(10, what), what == 10 ? 1 : untold[what]);
        }
        is("WEIGHT ahead of any", x.weight(0, 9), 0);
        is("by the eighth", x.weight(0, 10), 5);
        x.paper(4, NONE, NONE, NONE, NONE, 0, 0);
        is("of a later PAPER ahead of any", x.weight(1, 9), 0);
    }

    static void p23FaultsAreNoActs() {
        Hall x = new Hall();
        for (int i = 0; i < 9; i++) is("FAULT " + i, x.act("gap 3;gap 3;"), NONE);
        is("no ACTS", x.count(4), 0);
        is("what isn't told", x.rule(0, 3), 2);
        for (int i = 0; i < 8; i++) is("room for ACT " + i, x.act("gap 3;"), 1);
    }

    static void p23FaultLeavesNoTrace() {
        Hall x = new Hall();
        x.act("least 9;sure 9;heirs;fund 9;proof tax 8 when a;proof tax 9;?");
        is("a sound one", x.act("proof tax 7 when b;"), 1);
        int[] told = {1, 20, 8, 2, 30, 20, 10, 2, 0, 0, 1};
        for (int what = 0; what < told.length; what++) is("rule " + what, x.rule(0, what), told[what]);
        x.text("a;").paper(4, NONE, NONE, NONE, NONE, 0, 0);
        x.text("b;").paper(4, NONE, NONE, NONE, NONE, 0, 0);
        is("by the proofs of the FAULT", x.weight(0, 0), 0);
        is("by its own", x.weight(1, 0), 7);
        x.act("sure 3;proof tax 5;?");
        is("the ACT stays as it is", x.weight(1, 0), 7);
        is("its rules too", x.rule(0, 1), 20);
    }

    static void p23FaultLeavesNothingWaiting() {
        for (String fault : new String[] {"not ?", "a or not ?", "a and ?", "a and (not ?", "(a or not ?", "not (a and ?"}) {
            Hall x = new Hall();
            x.text("a;").paper(4, NONE, NONE, NONE, NONE, 0, 0);
            x.text("b;").paper(4, NONE, NONE, NONE, NONE, 0, 0);
            x.act("proof tax 1 when " + fault);
            is("sound, behind " + fault, x.act("proof tax 7 when b and (b);"), 1);
            is("a, behind " + fault, x.weight(0, 0), 0);
            is("b, behind " + fault, x.weight(1, 0), 7);
        }
    }

    static void p23BoundsOfEachNumber() {
        for (int i = 0; i < CLAUSES.length; i++) {
            if (i == HEIRS) continue;
            int at = CLAUSES[i].length() + 1;
            is(CLAUSES[i] + " least", good(CLAUSES[i] + " " + LOW[i] + ";", 1).rule(0, i), LOW[i]);
            is(CLAUSES[i] + " most", good(CLAUSES[i] + " " + HIGH[i] + ";", 1).rule(0, i), HIGH[i]);
            if (LOW[i] > 0) bad(CLAUSES[i] + " " + (LOW[i] - 1) + ";", 2, at);
            bad(CLAUSES[i] + " " + (HIGH[i] + 1) + ";", HIGH[i] < 9999 ? 2 : 1, at);
            if (HIGH[i] < 9999) bad(CLAUSES[i] + " 9999;", 2, at);
        }
        good("proof deed 0;", 1);
        good("proof deed 99;", 1);
        bad("proof deed 100;", 2, 11);
        bad("proof deed 9999;", 2, 11);
        bad("proof deed 100", 2, 11);
    }

    static void p23BoundsOfATerm() {
        Hall x = good("proof tax 7 when 9999 + 9999 + 9999 is a + b + c;", 1);
        x.text("a=9999;b=9999;c=9999;");
        x.paper(4, NONE, NONE, NONE, NONE, 0, 0);
        is("the greatest sums", x.weight(0, 0), 7);
        good(WHEN + "0;", 1);
        bad(WHEN + "10000;", 1, 17);
        bad(WHEN + "a is 00000;", 1, 22);
    }

    static void p23LettersAndDigits() {
        good("proof abstract 1 when abcdefghijkl;", 1);
        bad("proof abstract 1 when abcdefghijklm;", 1, 22);
        bad("abcdefghijklm", 1, 0);
        bad("least abcdefghijklm", 1, 6);
        is("four digits", good("fund 0007;", 1).rule(0, 9), 7);
        bad("fund 00007;", 1, 5);
        bad("fund 99999;", 1, 5);
        bad("fund 4294967299;", 1, 5);
        bad("fund " + times("9", 990), 1, 5);
        bad(times("a", 1000), 1, 0);
    }

    static void p23FirstAndLastLetterAndDigit() {
        good(WHEN + "az + za + 90;", 1);
        for (char c : new char[] {'a' - 1, 'z' + 1, 'A', 'Z', '0' - 1, '9' + 1}) {
            bad(WHEN + c + ";", 1, 17);
            bad(WHEN + "a" + c + ";", 1, 18);
            bad(WHEN + "9" + c + ";", 1, 18);
        }
    }

    static void p23EachByteAlone() {
        Hall x = new Hall();
        for (int c = 0; c < 256; c++) {
            if (c % 64 == 0) x = new Hall();
            boolean blank = c == 32 || c == 10;
            is("byte " + c, x.act("" + (char) c), blank ? 0 : NONE);
            is("place of byte " + c, x.fault(1), blank ? NONE : 0);
        }
    }

    static void p23EachByteAsATerm() {
        Hall x = new Hall();
        for (int c = 0; c < 256; c++) {
            if (c % 8 == 0) x = new Hall();
            boolean term = c >= 'a' && c <= 'z' || c >= '0' && c <= '9';
            is("byte " + c, x.act(WHEN + (char) c + ";"), term ? 1 : NONE);
            boolean next = c == 32 || c == 10 || c == '(';
            is("place of byte " + c, x.fault(1), term ? NONE : next ? 18 : 17);
        }
    }

    static void p23ShortWordsAreTheirOwn() {
        String[] words = {"a", "z", "p", "ap", "pa", "za", "aaa"};
        for (String word : words) {
            Hall x = good("proof tax 7 when " + word + ";", 1);
            for (int k = 0; k < words.length; k++) {
                x.text(words[k] + ";").paper(4, NONE, NONE, NONE, NONE, 0, 0);
                is(words[k] + " by " + word, x.weight(k, 0), words[k].equals(word) ? 7 : 0);
            }
        }
    }

    static void p23LongWordsAreTheirOwn() {
        Hall x = good("proof tax 7 when abcdefghijkl;proof tax 8 when bcdefghijkl;proof tax 9 when abcdefghijk;", 3);
        String[] marks = {"abcdefghijkl;", "bcdefghijkl;", "abcdefghijk;", "abcdefghijkm;", "bbcdefghijkl;"};
        int[] weights = {7, 8, 9, 0, 0};
        for (int i = 0; i < marks.length; i++) {
            x.text(marks[i]);
            x.paper(4, NONE, NONE, NONE, NONE, 0, 0);
            is(marks[i], x.weight(i, 0), weights[i]);
        }
    }

    static void p23Proofs() {
        Hall x = good(times("proof tax 1;", 23) + "proof tax 5;", 24);
        is("proofs", x.rule(0, 10), 24);
        x.paper(4, NONE, NONE, NONE, NONE, 0, 0);
        is("the 24th weighs", x.weight(0, 0), 5);
        bad(times("proof tax 1;", 25), 4, 288);
        bad(times("proof tax 1;", 24) + "proof", 4, 288);
        bad(times("proof tax 1;", 24) + "\n proof ?", 4, 290);
        bad(times("proof tax 1;", 24) + "prove", 1, 288);
        good(times("proof tax 1;", 24) + "heirs;", 25);
    }

    static void p23Tests() {
        good(WHEN + row("a", 12, " or ") + ";", 1);
        good(WHEN + row("a", 12, " and ") + ";", 1);
        good(WHEN + row("a is 1", 12, " or ") + ";", 1);
        bad(WHEN + row("a", 13, " or ") + ";", 4, 17 + 60);
        bad(WHEN + row("a", 12, " or ") + " or b?", 4, 17 + 60);
        bad(WHEN + row("a is 1", 13, " or ") + ";", 4, 17 + 120);
        bad(WHEN + row("a", 12, " and ") + " and 5;", 4, 17 + 72);
        bad(WHEN + row("a", 12, " or ") + " or or", 1, 17 + 60);
        bad(WHEN + row("a", 12, " or ") + " or 00000", 1, 17 + 60);
    }

    static void p23TestsWithin() {
        good(WHEN + "((((" + row("a", 12, ") or (") + "))));", 1);
        bad(WHEN + row("a", 12, " or ") + " or (b);", 4, 17 + 61);
        bad(WHEN + row("a", 12, " or ") + " or not b;", 4, 17 + 64);
        bad(WHEN + "(" + row("a", 12, " or ") + ") and b;", 4, 17 + 63);
        bad(WHEN + row("a", 12, " or ") + " or not (not ((b)));", 4, 17 + 71);
    }

    static void p23TestsOfEachCond() {
        good(WHEN + row("a", 12, " or ") + ";" + WHEN + row("a", 12, " or ") + ";", 2);
        int start = 17 + 57 + 17;
        bad(WHEN + row("a", 12, " or ") + ";" + WHEN + row("a", 13, " or ") + ";", 4, start + 60);
    }

    static void p23Terms() {
        good(WHEN + "a+b+c;", 1);
        good(WHEN + "a+b+c is d+e+f;", 1);
        bad(WHEN + "a+b+c+d;", 4, 17 + 6);
        bad(WHEN + "a+b+c+4;", 4, 17 + 6);
        bad(WHEN + "1+2+3+4;", 4, 17 + 6);
        bad(WHEN + "a+b+c + d", 4, 17 + 8);
        bad(WHEN + "a is b+c+d+e;", 4, 17 + 11);
        bad(WHEN + "a+b+c+;", 1, 17 + 6);
        bad(WHEN + "a+b+c+is;", 1, 17 + 6);
        bad(WHEN + "a+b+c+12345;", 1, 17 + 6);
        bad(WHEN + "a+b+c", 1, 17 + 5);
    }

    static void p23OpenAtOnce() {
        good(WHEN + "(((((a)))));", 1);
        bad(WHEN + "((((((a))))));", 4, 17 + 5);
        bad(WHEN + "(((((((", 4, 17 + 5);
        good(WHEN + "(((((a)))))or(((((b)))));", 1);
        bad(WHEN + "(((((a)))))or((((((b))))));", 4, 17 + 18);
        good(WHEN + "((((a)or(b)or(c))));", 1);
        bad(WHEN + "(((((a)or((b))))));", 4, 17 + 10);
        good(WHEN + "not(not(not(not(not(a)))));", 1);
        bad(WHEN + "not(not(not(not(not(not(a))))));", 4, 17 + 23);
        bad(WHEN + "(((((a))))));", 1, 17 + 11);
        bad(WHEN + "(((((a))));", 1, 17 + 10);
        bad(WHEN + "a);", 1, 17 + 1);
        bad(WHEN + "(a));", 1, 17 + 3);
        bad(WHEN + "(a) or b);", 1, 17 + 8);
        bad(WHEN + ");", 1, 17);
        bad(WHEN + "a and (((((", 1, 17 + 11);
    }

    static void p23ManyNots() {
        Hall even = good(WHEN + times("not ", 244) + "a;", 1);
        Hall odd = good(WHEN + times("not ", 243) + "a;", 1);
        even.paper(4, NONE, NONE, NONE, NONE, 0, 0);
        odd.paper(4, NONE, NONE, NONE, NONE, 0, 0);
        is("an even number", even.weight(0, 0), 0);
        is("an odd number", odd.weight(0, 0), 1);
    }

    static void p23Twice() {
        for (int i = 0; i < CLAUSES.length; i++) {
            String one = CLAUSES[i] + (i == HEIRS ? ";" : " 5;");
            bad(one + one, 3, one.length());
            bad(one + CLAUSES[i], 3, one.length());
            bad(one + "proof tax 1;" + CLAUSES[i] + " ?", 3, one.length() + 12);
            String other = i == 0 ? "heirs;" : "least 1;";
            bad(one + other + CLAUSES[i] + " 5;", 3, one.length() + other.length());
        }
        good("proof tax 1;proof tax 1;", 2);
    }

    static void p23KindsAndWords() {
        String[] kinds = {"deed", "copy", "index", "oath", "tax", "plate", "abstract"};
        for (int kind = 0; kind < 7; kind++) {
            Hall x = good("proof " + kinds[kind] + " 7;", 1);
            for (int k = 0; k < 7; k++) {
                x.paper(k, NONE, NONE, NONE, NONE, 0, 0);
                is("KIND " + k + " by " + kinds[kind], x.weight(k, 0), k == kind ? 7 : 0);
            }
        }
        for (String word : new String[] {"dee", "deeds", "heirs", "when", "proof", "7", ";"}) bad("proof " + word + " 7;", 1, 6);
        for (String word : new String[] {"deed", "when", "or", "leas", "leasts", "proofs", "7", "=", "(", ")", "+"}) bad(word + " 7;", 1, 0);
    }

    static void p23WordsThatNoTermIs() {
        for (String word : new String[] {"or", "and", "above", "below", "is", "when"}) {
            bad(WHEN + word + ";", 1, 17);
            bad(WHEN + "a + " + word + ";", 1, 21);
            bad(WHEN + "a is " + word + ";", 1, 22);
        }
        bad(WHEN + "a not b;", 1, 19);
        bad(WHEN + "a when b;", 1, 19);
        bad(WHEN + "a b;", 1, 19);
        bad(WHEN + "not;", 1, 20);
        bad(WHEN + "a is not;", 1, 22);
        bad(WHEN + "a + not b;", 1, 21);
        for (String word : new String[] {"o", "an", "nots", "abov", "i", "whe", "proof", "heirs", "tax", "fund"}) good(WHEN + word + ";", 1);
    }

    /** Bytes of signs as numbers (59 is ;), and WORDS and Ns that could be taken for one another: each is its own. */
    static void p23NumbersAndWordsAreNoSigns() {
        for (String n : new String[] {"40", "41", "43", "59", "61"}) {
            bad("gap 3 " + n, 1, 6);
            bad("heirs " + n, 1, 6);
            bad(WHEN + "a " + n + " b;", 1, 19);
            bad(WHEN + "(a " + n + ";", 1, 20);
            good(WHEN + n + ";", 1);
            good(WHEN + "(" + n + "+" + n + ") or " + n + ";", 1);
        }
        for (String word : new String[] {"ah", "ai", "ak", "af", "n", "s"}) {
            bad("gap 3 " + word, 1, 6);
            bad(WHEN + "a " + word + " b;", 1, 19);
            good(WHEN + word + " + " + word + ";", 1);
        }
        for (String n : new String[] {"498", "307", "1476", "7216", "14", "5", "19", "23"}) {
            bad(n + " 3;", 1, 0);
            bad("proof " + n + " 3;", 1, 6);
            bad(WHEN + "a " + n + " b;", 1, 19);
            good(WHEN + n + " is " + n + " and " + n + ";", 1);
        }
    }

    static void p23SyntaxWhereATextEnds() {
        String text = "proof tax 1 when not ( a + 2 is b ) and c ;";
        int[] starts = {6, 10, 12, 17, 21, 23, 25, 27, 29, 32, 34, 36, 40, 42};
        for (int at : starts) {
            bad(text.substring(0, at - 1), 1, at - 1);
            bad(text.substring(0, at), 1, at);
            bad(text.substring(0, at) + "\n\n", 1, at + 2);
            bad(text.substring(0, at) + "?", 1, at);
            bad(text.substring(0, at) + "=", 1, at);
        }
        good(text, 1);
        good(text.replace(" ", "\n"), 1);
        good("proof tax 1when not(a+2is b)and c;", 1);
    }

    static void p23FirstFaultOfTwo() {
        bad("gap 21; gap 3; ?", 2, 4);
        bad("gap 3; gap 21;", 3, 7);
        bad("? gap 21;", 1, 0);
        bad("proof tax 100 when ((((((a;", 2, 10);
        bad("proof tax 1 when ((((((a+b+c+d;", 4, 22);
    }

    static void p23HeirsHasNoNumber() {
        is("heirs", good("heirs;", 1).rule(0, 8), 1);
        bad("heirs 1;", 1, 6);
        bad("heirs", 1, 5);
        is("none told", good("gap 1;", 1).rule(0, 8), 0);
    }

    static void p24AheadOfAny() {
        Hall x = new Hall();
        is("kind", x.fault(0), 0);
        is("place", x.fault(1), NONE);
        each("what", NONE, x::fault, -1, 2, 3, LEAST, MOST);
    }

    static void p24NoSuchWhat() {
        Hall x = new Hall();
        x.act("?");
        is("kind", x.fault(0), 1);
        is("place", x.fault(1), 0);
        each("what", NONE, x::fault, -1, 2, 3, LEAST, MOST);
    }

    static void p24OfTheLatestThatReadAText() {
        Hall x = new Hall();
        x.lots(1);
        x.act("gap 21;");
        is("of act()", x.fault(0), 2);
        x.bounds("n5;?", 0, 0, 0);
        is("of bounds()", x.fault(0), 1);
        is("its place", x.fault(1), 3);
        x.bounds("n5;", 1, 0, 0);
        is("RANGE read none", x.fault(1), 3);
        x.text("?");
        x.paper(0, NONE, NONE, NONE, NONE, 0, 0);
        is("MARKS that are none have no FAULT", x.fault(1), 3);
        x.text("???");
        x.judge(0, 0, 0);
        is("nor has a row that is none", x.fault(1), 3);
        x.act("");
        is("none of a sound one", x.fault(0), 0);
        is("nor a place", x.fault(1), NONE);
        x.act("heirs;heirs;");
        is("of act() again", x.fault(0), 3);
        x.bounds("n5;", 0, 0, 0);
        is("none of sound BOUNDS", x.fault(0), 0);
        is("nor their place", x.fault(1), NONE);
    }

    static void p24FirstAndLastPlace() {
        bad("?", 1, 0);
        bad(times(" ", 999) + "?", 1, 999);
        bad("heirs" + times(" ", 995), 1, 1000);
        bad("heirs;" + times(" ", 989) + "heirs", 3, 995);
    }

    static void p25NoSuchDayOrWhat() {
        Hall x = new Hall();
        each("ahead of any, day", NO_SUCH, day -> x.rule(day, 0), beyond(0, 9999));
        each("ahead of any, what", NO_SUCH, what -> x.rule(0, what), beyond(0, 10));
        x.act("gap 3;");
        each("day", NO_SUCH, day -> x.rule(day, 3), beyond(0, 9999));
        each("what", NO_SUCH, what -> x.rule(0, what), beyond(0, 10));
        is("the first day", x.rule(0, 3), 3);
        is("the last", x.rule(9999, 3), 3);
        is("what 0", x.rule(0, 0), 1);
        is("what 10", x.rule(0, 10), 0);
    }

    static void p25FromTheDayOnWhichItCame() {
        Hall x = new Hall();
        x.pass(10);
        x.act("gap 3;");
        x.pass(10);
        x.act("gap 4;");
        int[] days = {0, 9, 10, 11, 19, 20, 21, 9999};
        int[] gaps = {2, 2, 3, 3, 3, 4, 4, 4};
        for (int i = 0; i < days.length; i++) is("on day " + days[i], x.rule(days[i], 3), gaps[i]);
    }

    static void p25LatestOfADay() {
        Hall x = new Hall();
        x.act("gap 3;heirs;");
        x.act("gap 4;");
        is("the later one", x.rule(0, 3), 4);
        is("whole", x.rule(0, 8), 0);
        x.act("gap 5;?");
        is("one with a FAULT is none", x.rule(0, 3), 4);
    }

    static void p25OnTheLastDay() {
        Hall x = new Hall();
        x.pass(5000);
        x.pass(4999);
        x.act("gap 3;");
        is("on 9998", x.rule(9998, 3), 2);
        is("on 9999", x.rule(9999, 3), 3);
    }

    static void p25WhatIsntTold() {
        int[] untold = {1, 20, 8, 2, 30, 20, 10, 2, 0, 0, 0};
        Hall x = new Hall();
        x.act("least 9;sure 9;doubt 9;gap 9;notice 9;long 9;years 9;oaths 9;heirs;fund 9;proof tax 9;");
        x.pass(1);
        x.act("");
        for (int what = 0; what < untold.length; what++) {
            is("rule " + what + " of the first", x.rule(0, what), what == 8 || what == 10 ? 1 : 9);
            is("rule " + what + " of the next", x.rule(1, what), untold[what]);
        }
    }
}
