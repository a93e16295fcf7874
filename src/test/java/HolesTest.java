/** Promises 17 drops, 18 lay, 19 stitches, 20 odds. */
final class HolesTest {
    private static final Check CHECK = new Check("HolesTest");

    public static void main(String[] args) {
        drops();
        lay();
        stitches();
        odds();
        wrong();
        CHECK.end();
    }

    private static void drops() {
        PocketLaws x = CHECK.told("k9 0 0 9;k9 63 0 9;k2 0 0 9;k9 0 0 9;h0 1 5;h1 2 4;h2 0 5;t0 3 0 0;t0 5 0 0;t0 1 0 0;t0 5 0 1;");
        CHECK.due("no night", x.drops(0, 0), 0);
        CHECK.due("laws, others are not asked", x.drops(0, 1), 1);
        CHECK.due("size is asked", x.drops(0, 2), 1);
        CHECK.due("the hole is too small", x.drops(1, 20), 1);
        CHECK.due("round", x.drops(2, 20), 2);
        CHECK.due("round", x.drops(2, 3), 0);
        CHECK.due("nothing is changed", x.thing(2, 3), 0);
    }

    private static void lay() {
        PocketLaws x = CHECK.told("k9 0 0 9;k9 0 0 9;k9 0 0 9;k1 0 0 9;h0 1 5;h2 1 1;h1 3 2;t0 2 0 1;t0 3 0 1;t0 1 0 0;t0 1 0 3;");
        CHECK.due("now", x.lay(0, 0), 2);
        CHECK.due("pocket 3 is too small, hole 2 too", x.lay(0, 1), 3);
        CHECK.due("long ago", x.lay(0, 20), 3);
        CHECK.due("hole 1 is too small", x.lay(1, 1), 3);
        CHECK.due("it would have dropped on", x.lay(2, 1), 0);
        CHECK.due("from all over", x.lay(3, 2), 15);
        CHECK.due("from near", x.lay(3, 1), 10);
    }

    private static void stitches() {
        PocketLaws x = CHECK.told("k9 0 0 9;".repeat(6) + "h5 4 1;h4 2 1;h2 3 1;h3 5 1;h0 2 5;");
        CHECK.due("needed", x.stitches(5, 3, 0), 1);
        CHECK.due("the first by numbers", x.stitches(5, 3, 1), 2);
        CHECK.due("the first by numbers", x.stitches(5, 2, 1), 4);
        CHECK.due("the only one", x.stitches(5, 4, 1), 5);
        CHECK.due("round", x.stitches(3, 2, 1), 3);
        CHECK.due("into the ring", x.stitches(0, 4, 1), 0);
        CHECK.due("not out of the ring", x.stitches(2, 0, 0), 0);
        CHECK.due("none is needed", x.stitches(2, 0, 1), PocketLaws.NONE);
        CHECK.due("no hole", x.stitches(1, 0, 0), 0);
        CHECK.due("against the hole", x.stitches(2, 1, 1), PocketLaws.NONE);
    }

    private static void odds() {
        PocketLaws x = CHECK.told("k9 0 0 9;k9 0 0 9;k1 0 0 9;h0 1 5;h1 2 5;t0 2 0 0;t0 1 0 0;t0 1 0 2;");
        fraction(x, 0, 0, 5, 0, 1, 1);
        fraction(x, 0, 1, 5, 0, 0, 1);
        fraction(x, 0, 0, 4, 2, 9, 25);
        fraction(x, 0, 1, 4, 2, 16, 25);
        fraction(x, 0, 2, 4, 6, 0, 1);
        fraction(x, 1, 1, 4, 2, 12, 25);
        fraction(x, 1, 2, 4, 2, 4, 25);
        fraction(x, 1, 2, 10, 2, 1, 1);
        fraction(x, 1, 0, 0, 6, 1, 1);
        fraction(x, 1, 0, 3, 6, 117649, 1000000);
        fraction(x, 2, 2, 7, 6, 1, 1);
    }

    private static void fraction(PocketLaws x, int t, int k, int p, int n, int upper, int lower) {
        String call = "odds(" + t + ", " + k + ", " + p + ", " + n + ")";
        CHECK.due(call + " upper", x.odds(t, k, p, n, 0), upper);
        CHECK.due(call + " lower", x.odds(t, k, p, n, 1), lower);
    }

    private static void wrong() {
        PocketLaws x = CHECK.told("k9 0 0 9;k9 0 0 9;h0 1 1;t0 1 0 0;");
        for (int no : new int[] {-1, 2, Integer.MIN_VALUE, Integer.MAX_VALUE}) {
            CHECK.due("drops", x.drops(no, 0), PocketLaws.BAD);
            CHECK.due("lay", x.lay(no, 0), PocketLaws.BAD);
            CHECK.due("stitches", x.stitches(no, 1, 0), PocketLaws.BAD);
            CHECK.due("stitches", x.stitches(0, no, 0), PocketLaws.BAD);
            CHECK.due("stitches", x.stitches(0, 1, no), PocketLaws.BAD);
            CHECK.due("odds", x.odds(no, 0, 0, 0, 0), PocketLaws.BAD);
            CHECK.due("odds", x.odds(0, no, 0, 0, 0), PocketLaws.BAD);
            CHECK.due("odds", x.odds(0, 0, 0, 0, no), PocketLaws.BAD);
        }
        CHECK.due("stitches", x.stitches(1, 1, 0), PocketLaws.BAD);
        for (int no : new int[] {-1, 21, Integer.MIN_VALUE, Integer.MAX_VALUE}) {
            CHECK.due("drops", x.drops(0, no), PocketLaws.BAD);
            CHECK.due("lay", x.lay(0, no), PocketLaws.BAD);
            CHECK.due("odds", x.odds(0, 0, no, 0, 0), PocketLaws.BAD);
            CHECK.due("odds", x.odds(0, 0, 0, no, 0), PocketLaws.BAD);
        }
        CHECK.due("odds", x.odds(0, 0, 11, 0, 0), PocketLaws.BAD);
        CHECK.due("odds", x.odds(0, 0, 0, 7, 0), PocketLaws.BAD);
        CHECK.due("drops", x.drops(0, 20), 1);
        CHECK.due("lay", x.lay(0, 20), 0);
    }
}
