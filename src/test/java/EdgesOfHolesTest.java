/** Holes, promises 17 to 20: for each sentence that names a boundary, a test of its own. */
final class EdgesOfHolesTest {
    private static final Check CHECK = new Check("EdgesOfHolesTest");
    private static final String K = "k9 0 0 9;";
    private static final String RING = K.repeat(6) + "h0 1 5;h1 2 5;h2 3 5;h3 4 5;h4 5 5;h5 0 5;";
    private static final int[] NEVER = {-1, Integer.MIN_VALUE, Integer.MAX_VALUE};

    public static void main(String[] args) {
        behindNights();
        ifItWereAlone();
        laidNightsAgo();
        laidNowhere();
        fewestHoles();
        firstThatWillDo();
        noStitchIsNeeded();
        oddsOfTenths();
        oddsOfNights();
        ifItCan();
        leastTerms();
        promiseDrops();
        promiseLay();
        promiseStitches();
        promiseOdds();
        CHECK.end();
    }

    private static void behindNights() {
        CHECK.sentence("where a THING is behind n (0 .. 20) NIGHTS");
        PocketLaws x = CHECK.told(RING + "t0 5 0 2;");
        for (int n = 0; n <= 20; n++) {
            CHECK.due("behind " + n, x.drops(0, n), (2 + n) % 6);
        }
        CHECK.due("behind 21", x.drops(0, 21), PocketLaws.BAD);
        CHECK.due("behind -1", x.drops(0, -1), PocketLaws.BAD);
        x = CHECK.told(K.repeat(3) + "h0 1 5;h1 2 5;t0 5 0 0;t0 5 0 2;");
        for (int n = 0; n <= 20; n++) {
            CHECK.due("where it ends", x.drops(0, n), Math.min(n, 2));
            CHECK.due("no hole", x.drops(1, n), 2);
        }
        x = CHECK.told(K.repeat(2) + "h0 1 3;t0 3 0 0;t0 4 0 0;");
        CHECK.due("goes through", x.drops(0, 20), 1);
        CHECK.due("does not go through", x.drops(1, 20), 0);
    }

    private static void ifItWereAlone() {
        CHECK.sentence("NIGHTS, if it were alone");
        PocketLaws x = CHECK.told("k9 0 0 9;k5 63 9 9;h0 1 5;t0 1 0 0;t0 5 0 1;");
        CHECK.due("another one is in the way", x.night(), 0);
        CHECK.due("alone, none is", x.drops(0, 1), 1);
        for (int size = 1; size <= 5; size++) {
            x = CHECK.told("k9 0 0 9;k" + size + " 0 0 9;h0 1 5;t0 3 0 0;");
            CHECK.due("by a night, size " + size, x.drops(0, 1), size < 3 ? 0 : 1);
            CHECK.due("as night() has it", x.night(), size < 3 ? 0 : 1);
        }
    }

    private static void laidNightsAgo() {
        CHECK.sentence("POCKETS (bits) in which it can have lain n NIGHTS ago");
        PocketLaws x = CHECK.told(RING + "t0 5 0 2;");
        for (int n = 0; n <= 20; n++) {
            CHECK.due("ago " + n, x.lay(0, n), 1 << Math.floorMod(2 - n, 6));
        }
        x = CHECK.told(K.repeat(6) + "h0 1 5;h1 2 5;h3 2 5;h4 2 1;t0 2 0 2;t0 1 0 2;");
        int[] great = {4, 14, 15, 15, 15};
        int[] small = {4, 30, 31, 31, 31};
        for (int n = 0; n < 5; n++) {
            CHECK.due("great, ago " + n, x.lay(0, n), great[n]);
            CHECK.due("small, ago " + n, x.lay(1, n), small[n]);
        }
        CHECK.due("long ago", x.lay(0, 20), 15);
        CHECK.due("all six", CHECK.told(K.repeat(6) + "h0 5 5;h1 5 5;h2 5 5;h3 5 5;h4 5 5;t0 1 0 5;").lay(0, 1), 63);
    }

    private static void laidNowhere() {
        CHECK.sentence("alone, to be where it is NOW");
        PocketLaws x = CHECK.told(K.repeat(2) + "h0 1 5;t0 1 0 0;");
        CHECK.due("now", x.lay(0, 0), 1);
        CHECK.due("it would have dropped", x.lay(0, 1), 0);
        CHECK.due("it would have dropped", x.lay(0, 20), 0);
        x.night();
        CHECK.due("where it is now", x.lay(0, 1), 3);
        x = CHECK.told("k9 0 0 9;k5 0 0 9;h0 1 5;t0 1 0 1;t0 5 0 1;");
        CHECK.due("others are not in the way", x.lay(0, 1), 3);
        x = CHECK.told("k9 0 0 9;k2 0 0 9;h0 1 5;t0 3 0 0;t0 3 0 1;");
        CHECK.due("its size is too small to drop into", x.lay(0, 1), 1);
        CHECK.due("its size is too small to drop into", x.lay(1, 1), 2);
    }

    private static void fewestHoles() {
        CHECK.sentence("the fewest HOLES to be stitched so that a THING of BULK 1, alone, never comes from the one to the other one by NIGHTS");
        PocketLaws x = CHECK.told("k1 63 9 9;k1 63 9 9;k1 63 9 9;h0 1 1;h1 2 1;t0 1 0 1;t0 1 0 2;");
        CHECK.due("through the least hole, laws and others are not asked", x.stitches(0, 1, 0), 1);
        CHECK.due("behind two nights", x.stitches(0, 2, 0), 1);
        CHECK.due("not back", x.stitches(2, 0, 0), 0);
        CHECK.due("not back", x.stitches(1, 0, 0), 0);
        x = CHECK.told(RING);
        for (int from = 0; from < 6; from++) {
            for (int to = 0; to < 6; to++) {
                CHECK.due("round", x.stitches(from, to, 0), from == to ? PocketLaws.BAD : 1);
            }
        }
    }

    private static void firstThatWillDo() {
        CHECK.sentence("the HOLE (its POCKET) that is stitched then, the first that will do");
        PocketLaws x = CHECK.told(RING);
        for (int from = 0; from < 6; from++) {
            for (int to = 0; to < 6; to++) {
                int want = from == to ? PocketLaws.BAD : from < to ? from : to == 0 ? from : 0;
                CHECK.due("from " + from + " to " + to, x.stitches(from, to, 1), want);
            }
        }
        x = CHECK.told(K.repeat(6) + "h5 3 1;h3 4 1;h4 1 1;h0 1 1;h2 1 1;");
        CHECK.due("the least number that is on the way", x.stitches(5, 1, 1), 3);
        CHECK.due("the only one", x.stitches(4, 1, 1), 4);
    }

    private static void noStitchIsNeeded() {
        CHECK.sentence("NONE: none is needed");
        PocketLaws x = CHECK.told(K.repeat(4) + "h0 1 5;h1 0 5;h2 1 5;s0 3;s2 3;");
        CHECK.due("no hole", x.stitches(3, 0, 1), PocketLaws.NONE);
        CHECK.due("no hole", x.stitches(3, 0, 0), 0);
        CHECK.due("round elsewhere", x.stitches(0, 2, 1), PocketLaws.NONE);
        CHECK.due("round elsewhere", x.stitches(0, 2, 0), 0);
        CHECK.due("seams do not drop", x.stitches(2, 3, 1), PocketLaws.NONE);
    }

    private static void oddsOfTenths() {
        CHECK.sentence("ODDS by p (0 .. 10)");
        PocketLaws x = CHECK.told(K + K + "h0 1 5;t0 1 0 0;");
        int[] upper = {0, 1, 1, 3, 2, 1, 3, 7, 4, 9, 1};
        int[] lower = {1, 10, 5, 10, 5, 2, 5, 10, 5, 10, 1};
        for (int p = 0; p <= 10; p++) {
            fraction(x, 1, p, 1, upper[p], lower[p]);
            fraction(x, 0, p, 1, lower[p] - upper[p], lower[p]);
        }
        CHECK.due("p = 11", x.odds(0, 0, 11, 1, 0), PocketLaws.BAD);
        CHECK.due("p = -1", x.odds(0, 0, -1, 1, 0), PocketLaws.BAD);
    }

    private static void oddsOfNights() {
        CHECK.sentence("n (0 .. 6): each NIGHT a THING, alone, drops by p of 10");
        PocketLaws x = CHECK.told(RING + "t0 1 0 0;t0 5 0 1;t0 5 0 1;");
        fraction(x, 0, 7, 0, 1, 1);
        fraction(x, 1, 7, 0, 0, 1);
        fraction(x, 0, 9, 6, 265721, 500000);
        fraction(x, 0, 10, 6, 1, 1);
        fraction(x, 5, 10, 5, 1, 1);
        fraction(x, 5, 10, 6, 0, 1);
        fraction(x, 0, 0, 6, 1, 1);
        fraction(x, 5, 3, 6, 5103, 500000);
        int[] six = {1, 6, 15, 20, 15, 6};
        x = CHECK.told(K.repeat(6) + "h0 1 5;h1 2 5;h2 3 5;h3 4 5;h4 5 5;t0 1 0 0;");
        for (int k = 0; k < 5; k++) {
            int common = Integer.lowestOneBit(six[k]);
            fraction(x, k, 5, 6, six[k] / common, 64 / common);
        }
        fraction(x, 5, 5, 6, 7, 64);
        CHECK.due("n = 7", x.odds(0, 0, 5, 7, 0), PocketLaws.BAD);
        CHECK.due("n = -1", x.odds(0, 0, 5, -1, 0), PocketLaws.BAD);
    }

    private static void ifItCan() {
        CHECK.sentence("drops by p of 10, if it can");
        PocketLaws x = CHECK.told("k9 0 0 9;k9 0 0 9;h0 1 2;t0 3 0 0;");
        fraction(x, 0, 10, 6, 1, 1);
        fraction(x, 1, 10, 6, 0, 1);
        x = CHECK.told("k9 0 0 9;k2 0 0 9;h0 1 5;t0 3 0 0;");
        fraction(x, 0, 10, 6, 1, 1);
        x = CHECK.told("k9 0 0 9;k9 0 0 9;t0 3 0 0;");
        fraction(x, 0, 5, 6, 1, 1);
        x = CHECK.told("k9 0 0 9;k5 63 0 9;h0 1 5;t0 5 0 0;t0 5 0 1;");
        fraction(x, 1, 5, 1, 1, 2);
    }

    private static void leastTerms() {
        CHECK.sentence("in least terms");
        PocketLaws x = CHECK.told(K + K + "h0 1 5;t0 1 0 0;");
        fraction(x, 0, 5, 6, 1, 64);
        fraction(x, 1, 5, 6, 63, 64);
        fraction(x, 0, 9, 6, 1, 1000000);
        fraction(x, 1, 9, 6, 999999, 1000000);
        fraction(x, 0, 8, 6, 1, 15625);
        fraction(x, 0, 7, 6, 729, 1000000);
        fraction(x, 0, 10, 6, 0, 1);
    }

    private static void fraction(PocketLaws x, int k, int p, int n, int upper, int lower) {
        String call = "odds(0, " + k + ", " + p + ", " + n;
        CHECK.due(call + ", 0)", x.odds(0, k, p, n, 0), upper);
        CHECK.due(call + ", 1)", x.odds(0, k, p, n, 1), lower);
    }

    private static void promiseDrops() {
        CHECK.sentence("DROPS. BAD.");
        PocketLaws x = CHECK.told(K + K + "h0 1 5;t0 1 0 0;");
        CHECK.due("drops(0, 20)", x.drops(0, 20), 1);
        CHECK.due("drops(0, 21)", x.drops(0, 21), PocketLaws.BAD);
        CHECK.due("drops(1, 0)", x.drops(1, 0), PocketLaws.BAD);
        for (int no : NEVER) {
            CHECK.due("drops(" + no + ", 0)", x.drops(no, 0), PocketLaws.BAD);
            CHECK.due("drops(0, " + no + ")", x.drops(0, no), PocketLaws.BAD);
        }
    }

    private static void promiseLay() {
        CHECK.sentence("LAY, as bits. BAD.");
        PocketLaws x = CHECK.told(K + K + "h1 0 5;t0 1 0 0;");
        CHECK.due("lay(0, 20)", x.lay(0, 20), 3);
        CHECK.due("lay(0, 21)", x.lay(0, 21), PocketLaws.BAD);
        CHECK.due("lay(1, 0)", x.lay(1, 0), PocketLaws.BAD);
        for (int no : NEVER) {
            CHECK.due("lay(" + no + ", 0)", x.lay(no, 0), PocketLaws.BAD);
            CHECK.due("lay(0, " + no + ")", x.lay(0, no), PocketLaws.BAD);
        }
    }

    private static void promiseStitches() {
        CHECK.sentence("STITCHES from a POCKET to another one (unlike)");
        PocketLaws x = CHECK.told(K + K + "h0 1 5;");
        for (int what = 0; what < 2; what++) {
            CHECK.due("unlike", x.stitches(0, 0, what), PocketLaws.BAD);
            CHECK.due("unlike", x.stitches(1, 1, what), PocketLaws.BAD);
        }
        CHECK.sentence("STITCHES: how many (what = 0), the HOLE (1; NONE). BAD.");
        CHECK.due("how many", x.stitches(0, 1, 0), 1);
        CHECK.due("the hole", x.stitches(0, 1, 1), 0);
        CHECK.due("stitches(0, 1, 2)", x.stitches(0, 1, 2), PocketLaws.BAD);
        CHECK.due("stitches(0, 2, 0)", x.stitches(0, 2, 0), PocketLaws.BAD);
        CHECK.due("stitches(2, 0, 0)", x.stitches(2, 0, 0), PocketLaws.BAD);
        for (int no : NEVER) {
            CHECK.due("stitches(" + no + ", 1, 0)", x.stitches(no, 1, 0), PocketLaws.BAD);
            CHECK.due("stitches(0, " + no + ", 0)", x.stitches(0, no, 0), PocketLaws.BAD);
            CHECK.due("stitches(0, 1, " + no + ")", x.stitches(0, 1, no), PocketLaws.BAD);
        }
    }

    private static void promiseOdds() {
        CHECK.sentence("ODDS: upper (what = 0), lower number (1), in least terms. BAD.");
        PocketLaws x = CHECK.told(K + K + "h0 1 5;t0 1 0 0;");
        CHECK.due("upper", x.odds(0, 1, 3, 1, 0), 3);
        CHECK.due("lower", x.odds(0, 1, 3, 1, 1), 10);
        CHECK.due("what = 2", x.odds(0, 1, 3, 1, 2), PocketLaws.BAD);
        CHECK.due("no such thing", x.odds(1, 1, 3, 1, 0), PocketLaws.BAD);
        CHECK.due("no such pocket", x.odds(0, 2, 3, 1, 0), PocketLaws.BAD);
        for (int no : NEVER) {
            CHECK.due("t = " + no, x.odds(no, 1, 3, 1, 0), PocketLaws.BAD);
            CHECK.due("k = " + no, x.odds(0, no, 3, 1, 0), PocketLaws.BAD);
            CHECK.due("p = " + no, x.odds(0, 1, no, 1, 0), PocketLaws.BAD);
            CHECK.due("n = " + no, x.odds(0, 1, 3, no, 0), PocketLaws.BAD);
            CHECK.due("what = " + no, x.odds(0, 1, 3, 1, no), PocketLaws.BAD);
        }
    }
}
