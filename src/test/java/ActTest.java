/** Promises 23 to 25, and the WEIGHTS of promise 30: the text of THE ACT, its FAULTS, its CONDS. */
public final class ActTest {
    public static void main(String[] args) {
        clauses();
        bounds();
        faults();
        rooms();
        force();
        traces();
        eightWeights();
        full();
        conds();
        lastProof();
        Due.end();
    }

    private static void clauses() {
        BurntHall x = new BurntHall();
        Due.text(x, "least 999;sure 0;doubt 999;gap 20;notice 999;long 99;years 99;oaths 20;heirs;fund 9999;"
                + "proof deed 99;proof plate 0;");
        Due.is("twelve clauses", x.act(), 12);
        int[] told = {999, 0, 999, 20, 999, 99, 99, 20, 1, 9999, 2};
        for (int what = 0; what < told.length; what++) Due.is("rule " + what, x.rule(0, what), told[what]);
        Due.is("rule 11", x.rule(0, 11), -9);
        Due.is("rule -1", x.rule(0, -1), -9);
        Due.is("no day", x.rule(-1, 0), -9);
        Due.is("no day", x.rule(10000, 0), -9);
        Due.is("the last day", x.rule(9999, 0), 999);
        Due.is("fault 2", x.fault(2), Due.NONE);
        Due.is("fault -1", x.fault(-1), Due.NONE);
        Due.text(x, " \n");
        Due.is("no clause", x.act(), 0);
        Due.is("what isn't told again", x.rule(0, 0), 1);
        Due.is("no proofs", x.rule(0, 10), 0);
        Due.text(x, "long 1;years 1;");
        Due.is("the least", x.act(), 2);
    }

    private static void bounds() {
        String[] names = {"least", "sure", "doubt", "gap", "notice", "long", "years", "oaths", "fund", "proof tax"};
        int[] low = {0, 0, 0, 0, 0, 1, 1, 0, 0, 0};
        int[] high = {999, 999, 999, 20, 999, 99, 99, 20, 9999, 99};
        for (int i = 0; i < names.length; i++) {
            good(names[i] + " " + low[i] + ";", 1);
            good(names[i] + " " + high[i] + ";", 1);
            if (low[i] > 0) bad(names[i] + " 0;", 2, names[i].length() + 1);
            if (high[i] < 9999) bad(names[i] + " " + (high[i] + 1) + ";", 2, names[i].length() + 1);
            bad(names[i] + " 10000;", 1, names[i].length() + 1);
            bad(names[i] + ";", 1, names[i].length());
            bad(names[i] + " 1", 1, names[i].length() + 2);
        }
    }

    private static void good(String text, int clauses) {
        BurntHall x = new BurntHall();
        Due.text(x, text);
        Due.is("act " + text, x.act(), clauses);
        Due.is("no fault of " + text, x.fault(0), 0);
        Due.is("no place of " + text, x.fault(1), Due.NONE);
        Due.is("kept " + text, x.count(4), 1);
    }

    private static void bad(String text, int kind, int place) {
        BurntHall x = new BurntHall();
        Due.text(x, text);
        Due.is("act " + text, x.act(), Due.NONE);
        Due.is("kind of " + text, x.fault(0), kind);
        Due.is("place of " + text, x.fault(1), place);
        Due.is("none kept of " + text, x.count(4), 0);
        Due.is("nothing told by " + text, x.rule(0, 10), 0);
    }

    private static void faults() {
        bad(";", 1, 0);
        bad("5", 1, 0);
        bad("heirs", 1, 5);
        bad("heirs  ", 1, 7);
        bad("heirs;heirs;", 3, 6);
        bad("heirs;fund 1;fund 99999;", 3, 13);
        bad("least 1;\nleast x;", 3, 9);
        bad("proof oath 5 when a is b is c;", 1, 25);
        bad("proof oath 5 when a above b below c;", 1, 28);
        bad("proof oath 5 when a b;", 1, 20);
        bad("proof oath 5 when a +;", 1, 21);
        bad("proof oath 5 when + a;", 1, 18);
        bad("proof oath 5 when a and or b;", 1, 24);
        bad("proof oath 5 when not;", 1, 21);
        bad("proof oath 5 when a not b;", 1, 20);
        bad("proof oath 5 when ();", 1, 19);
        bad("proof oath 5 when a);", 1, 19);
        bad("proof oath 5 when (a)) ;", 1, 21);
        bad("proof oath 5 when (a) is 3;", 1, 22);
        bad("proof oath 5 when (a) + 3;", 1, 22);
        bad("proof oath 5 when a = 3;", 1, 20);
        bad("proof oath 5 when a when b;", 1, 20);
        bad("proof oath 5 a;", 1, 13);
        bad("proof oath when a;", 1, 11);
        bad("proof 5 oath;", 1, 6);
        bad("proof oath 5 when abcdefghijklm;", 1, 18);
        bad("proof oath 5 when a above 12345;", 1, 26);
        bad("proof oath 5 when a", 1, 19);
        bad("proof oath 5 when", 1, 17);
        bad("proof oath 5 when (a or b;", 1, 25);
        bad("proof oath 5 when a above above;", 1, 26);
        bad("proof oath 5 when a; ?", 1, 21);
        bad("proof oath 5 when a; \u00e9", 1, 21);
        bad("lest 5;", 1, 0);
        bad("oath 5;", 1, 0);
        good("proof oath 5 when abcdefghijkl above 9999;", 1);
        good("proof oath 5 when proof + least is oath or fund;", 1);
        good("proof\noath 5 when not not not(not(a))and 1;", 1);
        good("proof oath 0005when a+1is1+a;", 1);
    }

    private static String times(String part, int n, String between) {
        StringBuilder s = new StringBuilder();
        for (int i = 0; i < n; i++) s.append(i > 0 ? between : "").append(part);
        return s.toString();
    }

    private static void rooms() {
        String proof = "proof tax 1;";
        good(times(proof, 24, ""), 24);
        bad(times(proof, 25, ""), 4, 24 * 12);
        bad(times(proof, 24, "") + "proof", 4, 24 * 12);
        String start = "proof tax 1 when ";
        good(start + times("a", 12, " or ") + ";", 1);
        bad(start + times("a", 13, " or ") + ";", 4, 17 + 12 * 5);
        bad(start + times("a", 12, " or ") + " and 7;", 4, 17 + 12 * 5 + 1);
        bad(start + times("a", 12, " or ") + " and when;", 1, 17 + 12 * 5 + 1);
        good(start + times("(a)", 12, " or ") + ";", 1);
        bad(start + times("(a)", 12, " or ") + " and (a);", 4, 17 + 12 * 7 + 2);
        good(start + times("a", 12, " or ") + ";" + start + times("b", 12, " and ") + ";", 2);
        good(start + "a+b+c above d+e+f;", 1);
        bad(start + "a above d+e+f+g;", 4, 17 + 14);
        bad(start + "a above d+e+f+;", 1, 17 + 14);
        bad(start + "a+b+c+7;", 4, 17 + 6);
        good(start + "(((((a)))));", 1);
        bad(start + "((((((a))))));", 4, 17 + 5);
        good(start + "((((a))))and(((((b)))));", 1);
        bad(start + "((((a))))and((((((b))))));", 4, 17 + 17);
        bad(start + "(((((a)))))));", 1, 17 + 11);
        good(start + times("not ", 245, "") + "a;", 1);
    }

    private static void force() {
        BurntHall x = new BurntHall();
        x.pass(5);
        act(x, "least 5;");
        act(x, "least 6;");
        x.pass(5);
        act(x, "least 7;");
        Due.text(x, "least 8");
        Due.is("a FAULT", x.act(), Due.NONE);
        Due.is("ahead of any", x.rule(4, 0), 1);
        Due.is("the latest of a day", x.rule(5, 0), 6);
        Due.is("till the next", x.rule(9, 0), 6);
        Due.is("the next", x.rule(10, 0), 7);
        Due.is("from then on", x.rule(9999, 0), 7);
    }

    static void act(BurntHall x, String text) {
        Due.text(x, text);
        x.act();
        Due.is("no fault in " + text, x.fault(0), 0);
    }

    /** What a text with a FAULT told leaves no trace in the next. */
    private static void traces() {
        BurntHall x = new BurntHall();
        Due.text(x, "proof tax 5 when a; proof tax 6; heirs; least 9; ?");
        Due.is("a FAULT", x.act(), Due.NONE);
        Due.text(x, "proof tax 7 when b;");
        Due.is("one clause", x.act(), 1);
        Due.is("one proof", x.rule(0, 10), 1);
        Due.is("no heirs", x.rule(0, 8), 0);
        Due.is("least", x.rule(0, 0), 1);
        Due.text(x, "a;");
        x.paper(4, -1, -1, -1, -1, 0, 0);
        Due.text(x, "b;");
        x.paper(4, -1, -1, -1, -1, 0, 0);
        Due.is("a", x.weight(0, 0), 0);
        Due.is("b", x.weight(1, 0), 7);
    }

    private static void eightWeights() {
        BurntHall x = new BurntHall();
        x.paper(4, -1, -1, -1, -1, 0, 0);
        for (int i = 1; i <= 8; i++) {
            x.pass(1);
            act(x, "proof tax " + i + "; proof tax " + 2 * i + " when a;");
        }
        Due.text(x, "a;");
        x.paper(4, -1, -1, -1, -1, 0, 0);
        for (int i = 1; i <= 8; i++) {
            Due.is("from ahead of the ACT " + i, x.weight(0, i), i);
            Due.is("from behind the ACT " + i, x.weight(1, i), 2 * i);
        }
        Due.is("ahead of all", x.weight(1, 0), 0);
    }

    private static void full() {
        BurntHall x = new BurntHall();
        for (int i = 0; i < 8; i++) {
            Due.text(x, "gap " + i + ";");
            Due.is("act " + i, x.act(), 1);
        }
        Due.text(x, "gap 9;");
        Due.is("the ninth", x.act(), Due.FULL);
        Due.is("it had no FAULT", x.fault(0), 0);
        Due.is("it was read", x.count(11), 0);
        Due.text(x, "gap 21;");
        Due.is("a FAULT of the ninth", x.act(), Due.NONE);
        Due.is("its kind", x.fault(0), 2);
        Due.is("the eighth stays", x.rule(0, 3), 7);
        Due.is("count", x.count(4), 8);
    }

    private static void holds(String cond, boolean want) {
        BurntHall x = new BurntHall();
        act(x, "proof copy 3 when " + cond + ";");
        Due.text(x, "one; two=2; zero=0; big=9999;");
        Due.is("paper", x.paper(1, -1, -1, -1, -1, 0, 0), 0);
        Due.is(cond, x.weight(0, 0), want ? 3 : 0);
    }

    private static void conds() {
        holds("one", true);
        holds("zero", false);
        holds("other", false);
        holds("0", false);
        holds("7", true);
        holds("not zero", true);
        holds("not not zero", false);
        holds("one is 1", true);
        holds("two is 1 + one", true);
        holds("two above 1 + one", false);
        holds("two above one", true);
        holds("one above two", false);
        holds("one below two", true);
        holds("two below two", false);
        holds("two is one", false);
        holds("big + big + big is 9999 + 9999 + 9999", true);
        holds("other is zero", true);
        holds("zero and one or one", true);
        holds("one or one and zero", true);
        holds("(one or one) and zero", false);
        holds("zero or zero and one", false);
        holds("not zero and zero", false);
        holds("not (zero and zero)", true);
        holds("not (one or zero)", false);
        holds("not one or one", true);
        holds("one and not (two and not (zero or one)) and two", true);
        holds("one and one and one and zero or two is 2", true);
        holds("(zero or (one and (two above 1))) and not zero", true);
        holds("zero or zero or one", true);
        holds("one and (zero or one) and (one and (one or zero))", true);
        holds("one and (zero or one) and (one and (zero or zero))", false);
        holds("not not not zero", true);
        holds("zero + zero + one", true);
    }

    private static void lastProof() {
        BurntHall x = new BurntHall();
        act(x, "proof copy 3; proof copy 0 when a; proof copy 5 when b; proof tax 7;proof copy 9 when zz;");
        String[] marks = {"", "a;", "b;", "a;b;", "a=0;b=0;"};
        int[] want = {3, 0, 5, 5, 3};
        for (int i = 0; i < marks.length; i++) {
            Due.text(x, marks[i]);
            x.paper(1, -1, -1, -1, -1, 0, 0);
            Due.is("marks " + marks[i], x.weight(i, 0), want[i]);
        }
        x.paper(4, -1, -1, -1, -1, 0, 0);
        x.paper(2, -1, -1, -1, -1, 0, 0);
        Due.is("of its kind", x.weight(5, 0), 7);
        Due.is("of no proof", x.weight(6, 0), 0);
        x.pass(3);
        act(x, "proof index 4 when not a;");
        Due.is("by the next act", x.weight(6, 3), 4);
        Due.is("by the former", x.weight(6, 2), 0);
        Due.is("by the next, of a PAPER from before", x.weight(0, 3), 0);
        Due.is("no paper", x.weight(7, 0), Due.RANGE);
        Due.is("no paper", x.weight(-1, 0), Due.RANGE);
        Due.is("no day", x.weight(0, -1), Due.RANGE);
        Due.is("no day", x.weight(0, 10000), Due.RANGE);
    }
}
