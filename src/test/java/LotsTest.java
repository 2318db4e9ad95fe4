/** Promises 13 to 22: LOTS, SPLIT and JOINED, their LINE, BOUNDS, ERROR, MENDED, AREA, STRIP. */
public final class LotsTest {
    public static void main(String[] args) {
        lots();
        split();
        join();
        about();
        line();
        bounds();
        error();
        mend();
        mendOfAllWays();
        area();
        strip();
        Due.end();
    }

    private static void lots() {
        BurntHall x = new BurntHall();
        Due.is("no feet", x.lot(0, 0), Due.RANGE);
        Due.is("too many feet", x.lot(1000000, 0), Due.RANGE);
        Due.is("no day", x.lot(1, -1), Due.RANGE);
        Due.is("no day", x.lot(1, 10000), Due.RANGE);
        for (int i = 0; i < 60; i++) Due.is("lot " + i, x.lot(i % 2 == 0 ? 1 : 999999, i % 2 * 9999), i);
        Due.is("the 61st", x.lot(1, 0), Due.FULL);
        Due.is("RANGE ahead of FULL", x.lot(0, 0), Due.RANGE);
        Due.is("feet", x.about(1, 0), 999999);
        Due.is("from", x.about(1, 1), 9999);
        Due.is("the last one's LINE", x.line(59), 1L << 59);
        Due.is("count", x.count(3), 60);
    }

    private static void split() {
        BurntHall x = new BurntHall();
        x.lot(100, 10);
        Due.is("no lot", x.split(1, 20, 2, 1, 1, 0, 0), Due.RANGE);
        Due.is("no day", x.split(0, 10000, 2, 1, 1, 0, 0), Due.RANGE);
        Due.is("in 1", x.split(0, 20, 1, 1, 1, 1, 1), Due.RANGE);
        Due.is("in 5", x.split(0, 20, 5, 1, 1, 1, 1), Due.RANGE);
        Due.is("no feet", x.split(0, 20, 2, 1, 0, 0, 0), Due.RANGE);
        Due.is("no feet of the fourth", x.split(0, 20, 4, 1, 1, 1, 1000000), Due.RANGE);
        Due.is("not there yet", x.split(0, 9, 2, 1, 1, 0, 0), Due.STATE);
        Due.is("RANGE ahead of STATE", x.split(0, 9, 2, 1, 0, 0, 0), Due.RANGE);
        Due.is("those beyond n don't matter", x.split(0, 10, 2, 60, 50, -7, 1000000), 1);
        Due.is("LACK", x.about(0, 3), -10);
        Due.is("ended", x.about(0, 2), 10);
        Due.is("came", x.about(2, 1), 10);
        Due.is("feet", x.about(2, 0), 50);
        Due.is("not there any more", x.split(0, 10, 2, 1, 1, 0, 0), Due.STATE);
        Due.is("was SPLIT on a later one", x.split(0, 9, 2, 1, 1, 0, 0), Due.STATE);
        Due.is("in 4", x.split(1, 500, 4, 10, 20, 30, 40), 3);
        Due.is("the fourth", x.about(6, 0), 40);
        Due.is("SPLIT on a later day", x.split(1, 400, 2, 1, 1, 0, 0), Due.STATE);
        for (int i = 0; i < 50; i++) x.lot(1, 0);
        Due.is("57", x.count(3), 57);
        Due.is("no room for 4", x.split(2, 600, 4, 1, 1, 1, 1), Due.FULL);
        Due.is("STATE ahead of FULL", x.split(0, 600, 4, 1, 1, 1, 1), Due.STATE);
        Due.is("room for 3", x.split(2, 600, 3, 1, 1, 1, 0), 57);
        Due.is("count", x.count(3), 60);
    }

    private static void join() {
        BurntHall x = new BurntHall();
        for (int i = 0; i < 6; i++) x.lot(10 + i, i);
        Due.is("1 lot", x.join(1, 0, 1, 2, 3, 9, 5), Due.RANGE);
        Due.is("5 lots", x.join(5, 0, 1, 2, 3, 9, 5), Due.RANGE);
        Due.is("like ones", x.join(3, 0, 1, 0, 3, 9, 5), Due.RANGE);
        Due.is("no lot", x.join(2, 0, 6, 2, 3, 9, 5), Due.RANGE);
        Due.is("no day", x.join(2, 0, 1, 2, 3, -1, 5), Due.RANGE);
        Due.is("no feet", x.join(2, 0, 1, 2, 3, 9, 0), Due.RANGE);
        Due.is("too many feet", x.join(2, 0, 1, 2, 3, 9, 1000000), Due.RANGE);
        Due.is("one not there yet", x.join(2, 0, 3, 0, 0, 2, 5), Due.STATE);
        Due.is("those beyond n don't matter", x.join(2, 0, 3, 0, 99, 3, 25), 6);
        Due.is("LACK of the JOINING", x.about(6, 4), -2);
        Due.is("LACK of a SPLIT of it", x.about(0, 3), 0);
        Due.is("ended", x.about(3, 2), 3);
        Due.is("one is gone", x.join(2, 3, 4, 0, 0, 100, 5), Due.STATE);
        Due.is("one was JOINED on a later day", x.join(2, 0, 1, 0, 0, 2, 5), Due.STATE);
        Due.is("four", x.join(4, 1, 2, 4, 5, 50, 999999), 7);
        Due.is("LACK of four", x.about(7, 4), 11 + 12 + 14 + 15 - 999999);
        for (int i = 0; i < 51; i++) x.lot(1, 0);
        Due.is("the last room", x.join(2, 8, 9, 0, 0, 5, 5), 59);
        Due.is("full", x.join(2, 10, 11, 0, 0, 5, 5), Due.FULL);
        Due.is("STATE ahead of FULL", x.join(2, 1, 11, 0, 0, 5, 5), Due.STATE);
    }

    private static void about() {
        BurntHall x = new BurntHall();
        x.lot(7, 8);
        Due.is("no lot", x.about(1, 0), -9);
        Due.is("no lot", x.about(-1, 0), -9);
        int[] plain = {7, 8, -1, 0, 0, 0, 0, 0, -9, -9, -9, -9};
        for (int what = 0; what < plain.length; what++) Due.is("about " + what, x.about(0, what), plain[what]);
        Due.is("about -1", x.about(0, -1), -9);
        Due.is("about least", x.about(0, Integer.MIN_VALUE), -9);
        Due.text(x, "n1;e60;s22;w3;n1;n1;n1;n1;n1;n1;n1;w60;");
        Due.is("12 lines", x.bounds(0, 99, 98), 12);
        Due.is("lines", x.about(0, 5), 12);
        Due.is("x", x.about(0, 6), 99);
        Due.is("y", x.about(0, 7), 98);
        Due.is("n", x.about(0, 10), 1);
        Due.is("e", x.about(0, 11), 100060);
        Due.is("s", x.about(0, 12), 200022);
        Due.is("w", x.about(0, 13), 300003);
        Due.is("the last", x.about(0, 21), 300060);
        Due.is("none behind it", x.about(0, 22), -9);
    }

    private static void line() {
        BurntHall x = new BurntHall();
        x.lot(10, 0);
        x.lot(10, 0);
        x.split(0, 5, 2, 5, 5, 0, 0);
        x.join(2, 1, 2, 0, 0, 6, 15);
        x.split(4, 7, 2, 5, 5, 0, 0);
        Due.is("of none", x.line(0), 1);
        Due.is("of a SPLIT", x.line(3), 8 | 1);
        Due.is("of a JOINING", x.line(4), 16 | 2 | 4 | 1);
        Due.is("of both", x.line(6), 64 | 16 | 2 | 4 | 1);
        Due.is("no lot", x.line(7), 0);
        Due.is("no lot", x.line(-1), 0);
    }

    private static void bounds() {
        BurntHall x = new BurntHall();
        x.lot(1, 0);
        String[] texts = {"", " \n ", "n", "n ", "n 5", "n 5; e", "n 5;;", "n 0;", "n 61;", "n 00060;", "n 12345;", "ne 5;",
            "N 5;", "n n;", "n 5 5;", "5;", "n 5; abcdefghijklm", "n=5;", "n 5\t;", "n5;e5;x",
            "n1;n1;n1;n1;n1;n1;n1;n1;n1;n1;n1;n1;n", "n1;n1;n1;n1;n1;n1;n1;n1;n1;n1;n1;n1;x1;",
            "n1;n1;n1;n1;n1;n1;n1;n1;n1;n1;n1;n1; w99;"};
        int[] kinds = {1, 1, 1, 1, 1, 1, 1, 2, 2, 1, 1, 1, 1, 1, 1, 1, 1, 1, 1, 1, 4, 1, 4};
        int[] places = {0, 3, 1, 2, 3, 6, 4, 2, 2, 2, 2, 0, 0, 2, 4, 0, 5, 1, 3, 6, 36, 36, 37};
        Due.text(x, "e 3; w 3;");
        Due.is("two lines", x.bounds(0, 4, 5), 2);
        Due.is("no fault", x.fault(0), 0);
        Due.is("no place", x.fault(1), Due.NONE);
        for (int i = 0; i < texts.length; i++) {
            Due.text(x, texts[i]);
            Due.is("bounds " + texts[i], x.bounds(0, 0, 0), Due.NONE);
            Due.is("kind of " + texts[i], x.fault(0), kinds[i]);
            Due.is("place of " + texts[i], x.fault(1), places[i]);
        }
        Due.is("those that it had stay", x.about(0, 10), 100003);
        Due.is("their corner too", x.about(0, 6), 4);
        Due.text(x, "n 5;");
        Due.is("no lot", x.bounds(1, 0, 0), Due.RANGE);
        for (int[] corner : new int[][] {{-1, 0}, {0, -1}, {100, 0}, {0, 100}}) {
            Due.text(x, "n 5;");
            Due.is("no corner", x.bounds(0, corner[0], corner[1]), Due.RANGE);
        }
        Due.is("RANGE reads no text: the fault stays", x.fault(0), 4);
        Due.text(x, "n\n0060 ;e1;");
        Due.is("blanks and four digits", x.bounds(0, 99, 99), 2);
        Due.is("60", x.about(0, 10), 60);
        Due.is("anew", x.about(0, 12), -9);
        Due.is("no fault again", x.fault(0), 0);
    }

    private static int made(BurntHall x, String text, int px, int py) {
        int l = x.lot(1, 0);
        Due.text(x, text);
        x.bounds(l, px, py);
        return l;
    }

    private static void error() {
        BurntHall x = new BurntHall();
        Due.is("no lot", x.error(0), Due.RANGE);
        x.lot(1, 0);
        Due.is("no bounds", x.error(0), Due.STATE);
        Due.is("both", x.error(made(x, "n5;e7;s9;w3;", 0, 0)), 8);
        Due.is("closed", x.error(made(x, "n5;s5;", 0, 0)), 0);
        Due.is("most", x.error(made(x, "w60;w60;w60;w60;w60;w60;w60;w60;w60;w60;w60;s60;", 0, 0)), 720);
    }

    private static void mended(String text, int sum, int... feet) {
        BurntHall x = new BurntHall();
        int l = made(x, text, 5, 5);
        Due.is("mend " + text, x.mend(l), sum);
        for (int i = 0; i < feet.length; i++) Due.is("mended " + text + " " + i, x.about(l, 10 + i) % 100000, feet[i]);
        Due.is("ways stay", x.about(l, 10) / 100000, "nesw".indexOf(text.charAt(0)));
        if (sum != Due.NONE) Due.is("closes " + text, x.error(l), 0);
    }

    private static void mend() {
        BurntHall x = new BurntHall();
        Due.is("no lot", x.mend(0), Due.RANGE);
        x.lot(1, 0);
        Due.is("no bounds", x.mend(0), Due.STATE);
        mended("n5;s5;", 0, 5, 5);
        mended("n5;s4;", 1, 4, 4);
        mended("n5;s1;n5;", 9, 5, 10, 5);
        mended("n5;s1;n10;", 14, 5, 15, 10);
        mended("n5;s1;n4;s7;", 1, 4, 1, 4, 7);
        mended("n1;n5;s3;n6;s2;", 7, 1, 5, 3, 6, 9);
        mended("n1;n5;s3;n6;s7;", 2, 1, 3, 3, 6, 7);
        mended("s60;s60;n1;s60;", 179, 60, 60, 180, 60);
        mended("e10;n5;w8;s9;", 6, 8, 5, 8, 5);
        mended("n5;", Due.NONE, 5);
        mended("n5;s5;e1;", Due.NONE, 5, 5, 1);
        mended("n5;s4;e1;", Due.NONE, 5, 4, 1);
    }

    /** Small BOUNDS against every row of lengths. */
    private static void mendOfAllWays() {
        for (int code = 0; code < 4000; code += 7) {
            int rest = code;
            int n = 3 + code % 2;
            int[] ways = new int[n];
            int[] feet = new int[n];
            StringBuilder text = new StringBuilder();
            for (int i = 0; i < n; i++) {
                ways[i] = rest % 4;
                feet[i] = 1 + rest / 4 % 5;
                rest = rest / 3 + 11 * i;
                text.append("nesw".charAt(ways[i])).append(feet[i]).append(';');
            }
            int[] best = null;
            int[] bestKey = null;
            int[] row = new int[n];
            for (int all = 0; all < Math.pow(20, n); all++) {
                int left = all;
                int x = 0;
                int y = 0;
                int sum = 0;
                int changed = 0;
                for (int i = n - 1; i >= 0; i--) {
                    row[i] = 1 + left % 20;
                    left /= 20;
                    y += ways[i] == 0 ? row[i] : ways[i] == 2 ? -row[i] : 0;
                    x += ways[i] == 1 ? row[i] : ways[i] == 3 ? -row[i] : 0;
                    sum += Math.abs(row[i] - feet[i]);
                    changed += row[i] == feet[i] ? 0 : 1;
                }
                int[] key = {sum, changed};
                if (x == 0 && y == 0 && (best == null || java.util.Arrays.compare(key, bestKey) < 0)) {
                    best = row.clone();
                    bestKey = key;
                }
            }
            if (best == null) mended(text.toString(), Due.NONE, feet); else mended(text.toString(), bestKey[0], best);
        }
    }

    private static void areaIs(String text, int want) {
        BurntHall x = new BurntHall();
        Due.is("area " + text, x.area(made(x, text, 0, 0)), want);
    }

    private static void area() {
        BurntHall x = new BurntHall();
        Due.is("no lot", x.area(0), Due.RANGE);
        x.lot(1, 0);
        Due.is("no bounds", x.area(0), Due.STATE);
        areaIs("n1;e1;s1;w1;", 1);
        areaIs("w60;s60;e60;n60;", 3600);
        areaIs("n1;e1;s1;", Due.NONE);
        areaIs("n5;e3;s4;w3;", Due.NONE);
        areaIs("n5;e3;s5;w2;", Due.NONE);
        areaIs("n5;s5;", Due.NONE);
        areaIs("n5;e3;s2;w1;s3;w2;", 2 * 3 + 3 * 2);
        areaIs("n4;e1;n1;e2;s5;w3;", 3 * 4 + 2);
        areaIs("n5;n1;e3;s6;w3;", Due.NONE);
        areaIs("n3;e3;s6;w3;n3;", Due.NONE);
        areaIs("e4;n4;w2;s4;w2;n2;e1;s2;w1;", Due.NONE);
        areaIs("e4;n4;w4;s2;e2;n1;w2;s3;", Due.NONE);
        areaIs("e6;n5;w2;s3;w2;n3;w2;s5;", 30 - 6);
        areaIs("e6;n5;w2;s5;w2;n5;w2;s5;", Due.NONE);
        areaIs("e2;n2;e2;n2;w2;s2;w2;s2;", Due.NONE);
        areaIs("e5;n5;w1;s4;w1;n4;w1;s4;w1;n4;w1;s5;", 5 + 4 + 4 + 4);
    }

    private static void strip() {
        BurntHall x = new BurntHall();
        int big = made(x, "n10;e10;s10;w10;", 0, 0);
        int cross = made(x, "e20;s3;w20;n3;", 5, 5);
        int open = made(x, "e20;", 5, 5);
        int ring = made(x, "e9;n9;w9;s3;e6;s3;w6;s3;", 3, 3);
        int beside = made(x, "n10;e10;s10;w10;", 10, 0);
        int bare = x.lot(1, 0);
        int comb = made(x, "e5;n5;w1;s4;w1;n4;w1;s4;w1;n4;w1;s5;", 6, 2);
        int turned = made(x, "n5;e5;s1;w4;s1;e4;s1;w4;s1;e4;s1;w5;", 6, 2);
        Due.is("two of twelve lines", x.strip(comb, turned), 9 + 2 * 4 - 4);
        Due.is("likewise", x.strip(turned, comb), x.strip(comb, turned));
        Due.is("both", x.strip(big, cross), 15);
        Due.is("likewise", x.strip(cross, big), 15);
        Due.is("within a bent one", x.strip(ring, big), 7 * 3 + 1 * 3 + 7 * 1);
        Due.is("bent and crosswise", x.strip(ring, cross), 7 * 2);
        Due.is("beside", x.strip(big, beside), 0);
        Due.is("no area", x.strip(big, open), Due.NONE);
        Due.is("no area of the first", x.strip(open, big), Due.NONE);
        Due.is("no bounds", x.strip(big, bare), Due.STATE);
        Due.is("no bounds of the first", x.strip(bare, big), Due.STATE);
        Due.is("STATE ahead of NONE", x.strip(open, bare), Due.STATE);
        Due.is("like", x.strip(big, big), Due.RANGE);
        Due.is("no lot", x.strip(big, 8), Due.RANGE);
        Due.is("no lot", x.strip(-1, big), Due.RANGE);
    }
}
