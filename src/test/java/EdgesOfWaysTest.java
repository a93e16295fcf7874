/** Ways and stowing, promises 13 to 16: for each sentence that names a boundary, a test of its own. */
final class EdgesOfWaysTest {
    private static final Check CHECK = new Check("EdgesOfWaysTest");
    private static final String K = "k9 0 0 9;";
    private static final int[] NEVER = {-1, Integer.MIN_VALUE, Integer.MAX_VALUE};

    public static void main(String[] args) {
        nothingIsChanged();
        fewestTimes();
        sizeIsNotAsked();
        cheapest();
        noWay();
        noneIsOutlawed();
        noneAboveSize();
        fewestElsewhere();
        ofSeveralTheFirst();
        noStowing();
        mostWorth();
        letsInOnly();
        toSizeAtMost();
        treatyThatThereIsNot();
        withASeam();
        ifItIsLess();
        theFirstTreaty();
        promiseWay();
        promiseStow();
        promiseHoard();
        promiseSaves();
        CHECK.end();
    }

    private static void nothingIsChanged() {
        CHECK.sentence("(Nothing is changed.)");
        PocketLaws x = CHECK.told("k9 2 3 9;k5 0 1 0;k6 1 4 9;k4 0 9 2;s0 1;s1 2;s2 3;h1 2 2;h2 3 1;y0 2 1;t1 2 5 1;t0 1 3 0;t0 4 9 0;");
        x.keep(0);
        CHECK.due("moves", x.moves(1, 1), 1);
        x.night();
        String before = Seen.of(x);
        for (int t = -1; t < 4; t++) {
            x.stow(t);
            x.hoard(t);
            for (int k = -1; k < 5; k++) {
                x.way(t, k, 0);
                x.way(t, k, 1);
                x.saves(t, k);
                x.odds(t, k, 5, 6, 0);
                x.stitches(t, k, 1);
            }
            x.drops(t, 20);
            x.lay(t, 20);
        }
        CHECK.holds("nothing is changed", Seen.of(x).equals(before));
        CHECK.due("undo", x.undo(), 1);
        CHECK.due("the image is as it was", x.back(0), 0);
    }

    private static void fewestTimes() {
        CHECK.sentence("the fewest times that it is MOVED");
        PocketLaws x = CHECK.told(K.repeat(6) + "s0 1;s1 2;s2 3;s3 4;s4 5;t0 1 0 0;t0 1 0 5;t0 1 0 2;");
        for (int k = 0; k < 6; k++) {
            CHECK.due("from one end", x.way(0, k, 0), k);
            CHECK.due("from the other end", x.way(1, k, 0), 5 - k);
            CHECK.due("from between", x.way(2, k, 0), Math.abs(k - 2));
        }
        x = CHECK.told("k9 0 9 9;k9 0 9 9;k9 0 9 9;k9 0 9 9;s0 1;s1 2;s2 3;s0 3;y0 1 0;y1 2 0;y2 3 0;t0 1 0 0;");
        CHECK.due("though it is dearer", x.way(0, 3, 0), 1);
        CHECK.due("longer and cheaper", x.way(0, 3, 1), 0);
    }

    private static void sizeIsNotAsked() {
        CHECK.sentence("(SIZE is not asked)");
        PocketLaws x = CHECK.told("k1 0 0 9;k1 0 3 9;k1 0 4 9;s0 1;s1 2;t0 5 0 0;t0 5 0 1;");
        CHECK.due("moves", x.moves(0, 1), PocketLaws.STATE);
        CHECK.due("way", x.way(0, 2, 0), 2);
        CHECK.due("cheapest", x.way(0, 2, 1), 7);
    }

    private static void cheapest() {
        CHECK.sentence("CHEAPEST: the least that is paid by any");
        PocketLaws x = CHECK.told("k9 0 9 9;k9 0 8 9;k9 0 1 9;k9 0 1 9;k9 0 5 9;s0 1;s1 4;s0 2;s2 3;s3 4;t0 1 0 0;");
        CHECK.due("the longer one", x.way(0, 4, 1), 7);
        CHECK.due("the shorter one", x.way(0, 4, 0), 2);
        CHECK.due("what it is in is not paid", x.way(0, 0, 1), 0);
        x = CHECK.told("k9 0 9 9;k9 0 9 9;k9 0 9 9;k9 0 9 9;k9 0 9 9;k9 0 9 9;s0 1;s1 2;s2 3;s3 4;s4 5;t0 1 0 0;t0 1 0 5;");
        CHECK.due("the dearest", x.way(0, 5, 1), 45);
        CHECK.due("the dearest", x.way(1, 0, 1), 45);
        x = CHECK.told("k9 0 0 9;k9 0 9 9;k9 0 5 9;k9 0 2 9;s0 1;s0 2;s2 1;s2 3;s1 3;y1 0 3;y1 2 3;t3 1 0 0;t2 1 0 0;");
        CHECK.due("by treaties there and back", x.way(0, 2, 1), 0);
        CHECK.due("by tax", x.way(1, 2, 1), 5);
        CHECK.due("by treaty, then tax", x.way(0, 3, 1), 2);
    }

    private static void noWay() {
        CHECK.sentence("the least that is paid by any; NONE");
        PocketLaws x = CHECK.told("k9 0 0 9;k9 1 0 9;k9 0 0 9;k9 0 0 9;s0 1;s1 2;h0 3 5;t0 1 0 0;t1 1 0 0;");
        for (int what = 0; what < 2; what++) {
            CHECK.due("not let in", x.way(0, 1, what), PocketLaws.NONE);
            CHECK.due("not through where it is not let in", x.way(0, 2, what), PocketLaws.NONE);
            CHECK.due("no seam", x.way(0, 3, what), PocketLaws.NONE);
            CHECK.due("another sort", x.way(1, 2, what), what == 0 ? 2 : 0);
            CHECK.due("where it is", x.way(0, 0, what), 0);
        }
        x = CHECK.told("k9 1 5 9;k9 0 5 9;s0 1;t0 1 0 0;");
        CHECK.due("where it is, though outlawed: it is not moved", x.way(0, 0, 0), 0);
        CHECK.due("where it is, though outlawed: nothing is paid", x.way(0, 0, 1), 0);
        CHECK.due("out of there", x.way(0, 1, 1), 5);
    }

    private static void noneIsOutlawed() {
        CHECK.sentence("so that none is OUTLAWED");
        PocketLaws x = CHECK.told("k20 1 0 9;k20 0 0 0;k20 0 0 9;t0 1 0 0;t0 1 0 1;t1 1 0 0;");
        CHECK.due("two must go", x.stow(-1), 2);
        plan(x, 2, 2, 0);
        CHECK.sentence("of all ways to put all THINGS into POCKETS");
        x = CHECK.told("k20 1 0 9;k20 0 0 9;t0 1 0 0;");
        CHECK.due("no seam is needed", x.stow(-1), 1);
        CHECK.due("no seam is needed", x.stow(0), 1);
    }

    private static void noneAboveSize() {
        CHECK.sentence("no POCKET FILLED above SIZE");
        for (int size = 1; size <= 20; size++) {
            PocketLaws x = CHECK.told("k" + size + " 0 0 9;k20 0 0 9;" + "t0 3 0 0;".repeat(6));
            int stay = Math.min(6, size / 3);
            CHECK.due("how many at size " + size, x.stow(-1), 6 - stay);
        }
        PocketLaws x = CHECK.told("k5 0 0 9;k4 0 0 9;t0 4 0 0;t0 5 0 1;");
        CHECK.due("each takes the other one's", x.stow(-1), 2);
        plan(x, 1, 0);
    }

    private static void fewestElsewhere() {
        CHECK.sentence("that by which fewest lie elsewhere than NOW");
        PocketLaws x = CHECK.told("k9 0 0 9;k9 0 0 9;k9 0 0 9;s0 1;s1 2;h0 2 5;t0 5 0 2;t0 5 0 1;t0 5 0 0;");
        CHECK.due("all lie well", x.stow(-1), 0);
        plan(x, 2, 1, 0);
        x = CHECK.told("k5 0 0 9;k5 0 0 9;k5 0 0 9;t0 2 0 2;t0 3 0 2;t0 3 0 2;");
        CHECK.due("two stay", x.stow(-1), 1);
        plan(x, 2, 0, 2);
        x = CHECK.told("k20 0 0 9;k1 0 0 9;" + "t0 1 0 1;".repeat(6));
        CHECK.due("one stays", x.stow(-1), 5);
        plan(x, 0, 0, 0, 0, 0, 1);
        x = CHECK.told("k9 1 0 9;k9 0 0 9;h1 0 5;t0 1 0 1;");
        CHECK.due("now", x.stow(-1), 0);
        x.night();
        CHECK.due("behind a night", x.stow(-1), 1);
        CHECK.due("elsewhere than now", x.stow(0), 1);
        x = CHECK.told("k9 63 0 9;k20 0 0 9;" + "t0 1 0 0;".repeat(6));
        CHECK.due("all six", x.stow(-1), 6);
        plan(x, 1, 1, 1, 1, 1, 1);
    }

    private static void ofSeveralTheFirst() {
        CHECK.sentence("of several the first (POCKET of THING 0, then 1, ..)");
        PocketLaws x = CHECK.told("k3 0 0 9;k3 0 0 9;k3 0 0 9;t0 3 0 1;t0 3 0 1;");
        CHECK.due("one", x.stow(-1), 1);
        plan(x, 0, 1);
        x = CHECK.told("k3 0 0 9;k3 0 0 9;k3 0 0 9;t0 3 0 0;t0 3 0 0;");
        CHECK.due("one", x.stow(-1), 1);
        plan(x, 0, 1);
        x = CHECK.told("k9 63 0 9;k3 0 0 9;k9 0 0 9;t0 2 0 0;t0 2 0 0;t0 1 0 0;");
        CHECK.due("three", x.stow(-1), 3);
        plan(x, 1, 2, 1);
        x = CHECK.told("k4 0 0 9;k4 0 0 9;k4 0 0 9;t0 2 0 2;t0 2 0 2;t0 2 0 2;t0 2 0 2;");
        CHECK.due("two", x.stow(-1), 2);
        plan(x, 0, 0, 2, 2);
    }

    private static void noStowing() {
        CHECK.sentence("the POCKET of a THING; NONE. HOARD");
        PocketLaws x = CHECK.told("k20 1 0 9;k20 1 0 9;t0 1 0 0;t1 1 0 0;");
        CHECK.due("forbidden everywhere", x.stow(-1), PocketLaws.NONE);
        CHECK.due("that one", x.stow(0), PocketLaws.NONE);
        CHECK.due("another one", x.stow(1), PocketLaws.NONE);
        x = CHECK.told("k4 0 0 9;k4 0 0 9;t0 5 0 0;");
        CHECK.due("too great for all", x.stow(-1), PocketLaws.NONE);
        x = CHECK.told("k5 0 0 9;k5 0 0 9;t0 3 0 0;t0 3 0 1;t0 4 0 0;");
        CHECK.due("each fits, all do not", x.stow(-1), PocketLaws.NONE);
        CHECK.due("each fits, all do not", x.stow(2), PocketLaws.NONE);
        x = CHECK.told("k1 0 0 9;k1 0 0 9;k1 0 0 9;k1 0 0 9;k1 0 0 9;k1 0 0 9;" + "t0 1 0 3;".repeat(6));
        CHECK.due("just full", x.stow(-1), 5);
        plan(x, 0, 1, 2, 3, 4, 5);
        CHECK.due("no things", CHECK.told("k1 63 0 9;").stow(-1), 0);
        CHECK.due("no pockets", new PocketLaws().stow(-1), 0);
    }

    private static void plan(PocketLaws x, int... pockets) {
        for (int t = 0; t < pockets.length; t++) {
            CHECK.due("stow(" + t + ")", x.stow(t), pockets[t]);
        }
    }

    private static void mostWorth() {
        CHECK.sentence("the most WORTH of THINGS (wherever they are)");
        PocketLaws x = CHECK.told("k6 0 0 9;k6 0 0 0;k20 0 0 9;t0 5 9 1;t0 3 5 2;t0 3 5 0;");
        CHECK.due("two together are worth more", x.hoard(0), 10);
        CHECK.due("from outside, from elsewhere", x.hoard(1), 10);
        CHECK.due("all of it", x.hoard(2), 19);
        CHECK.due("six times 9", CHECK.told("k6 0 0 9;k6 0 0 9;" + "t0 1 9 1;".repeat(6)).hoard(0), 54);
        CHECK.due("worth nothing", CHECK.told("k6 0 0 9;t0 1 0 0;").hoard(0), 0);
        CHECK.due("no things", CHECK.told(K).hoard(0), 0);
    }

    private static void letsInOnly() {
        CHECK.sentence("that it LETS IN");
        PocketLaws x = CHECK.told("k9 4 0 9;k9 2 0 0;k9 63 0 9;t1 1 1 0;t2 1 2 0;t3 1 4 0;");
        CHECK.due("not sort 2", x.hoard(0), 5);
        CHECK.due("nor its outer's", x.hoard(1), 4);
        CHECK.due("nothing at all", x.hoard(2), 0);
    }

    private static void toSizeAtMost() {
        CHECK.sentence("and that fill it to SIZE at most");
        for (int size = 1; size <= 20; size++) {
            PocketLaws x = CHECK.told("k" + size + " 0 0 9;" + "t0 3 9 0;".repeat(6));
            CHECK.due("size " + size, x.hoard(0), 9 * Math.min(6, size / 3));
        }
        CHECK.due("what lies there now does not count", CHECK.told("k1 0 0 9;k9 0 0 9;t0 5 9 0;t0 1 3 1;").hoard(0), 3);
    }

    private static void treatyThatThereIsNot() {
        CHECK.sentence("the SORT) that there is not");
        PocketLaws x = CHECK.told("k9 0 0 9;k9 0 5 9;k9 0 3 9;s0 1;s1 2;y1 0 4;t4 1 0 0;t3 1 0 0;");
        CHECK.due("the first step is free already", x.saves(0, 2), 124);
        CHECK.due("nothing to save", x.saves(0, 1), PocketLaws.NONE);
        CHECK.due("for another sort there is none", x.saves(1, 1), 13);
        CHECK.due("for another sort there is none", x.saves(1, 2), 13);
    }

    private static void withASeam() {
        CHECK.sentence("of two POCKETS with a SEAM");
        PocketLaws x = CHECK.told("k9 0 0 9;k9 0 5 9;k9 0 3 9;s0 1;s1 2;h0 2 5;t0 1 0 0;");
        CHECK.due("not 0 and 2", x.saves(0, 2), 10);
        CHECK.due("none", CHECK.told("k9 0 0 9;k9 0 5 9;h0 1 5;t0 1 0 0;").saves(0, 1), PocketLaws.NONE);
        x = CHECK.told("k9 0 3 9;k9 0 5 9;s0 1;t0 1 0 1;");
        CHECK.due("the lesser pocket ahead", x.saves(0, 0), 10);
        x = CHECK.told(K.repeat(4) + "k9 0 0 9;k9 0 1 9;s5 4;t5 1 0 4;");
        CHECK.due("the greatest numbers", x.saves(0, 5), 455);
    }

    private static void ifItIsLess() {
        CHECK.sentence("by which the CHEAPEST of a THING to a POCKET is least, if it is less by that");
        PocketLaws x = CHECK.told("k9 0 0 9;k9 0 2 9;k9 0 6 9;k9 0 3 9;s0 1;s1 2;s2 3;t0 1 0 0;");
        CHECK.due("the dearest step", x.saves(0, 3), 120);
        x = CHECK.told("k9 0 0 9;k9 0 0 9;k9 0 4 9;k9 0 0 9;s0 1;s1 3;s0 2;s2 3;t0 1 0 0;");
        CHECK.due("free already", x.saves(0, 3), PocketLaws.NONE);
        x = CHECK.told("k9 0 0 9;k9 0 4 9;k9 0 1 9;k9 0 0 9;s0 1;s0 2;s1 3;s2 3;t0 1 0 0;");
        CHECK.due("by which another way is no dearer: the first", x.saves(0, 3), 10);
        x = CHECK.told("k9 0 0 9;k9 0 9 9;k9 0 4 9;k9 0 4 9;s0 1;s0 2;s2 3;s3 1;y3 1 0;t0 1 0 0;");
        CHECK.due("straight there, not the way that is cheapest now", x.saves(0, 1), 10);
        x = CHECK.told("k9 0 0 9;k9 1 4 9;s0 1;t0 1 0 0;");
        CHECK.due("not let in", x.saves(0, 1), PocketLaws.NONE);
        CHECK.due("where it is", x.saves(0, 0), PocketLaws.NONE);
        x = CHECK.told("k9 0 0 9;k9 1 4 9;k9 0 5 9;s0 1;s1 2;s0 2;t0 1 0 0;");
        CHECK.due("not through where it is not let in", x.saves(0, 2), 20);
    }

    private static void theFirstTreaty() {
        CHECK.sentence("if it is less by that; the first; NONE");
        PocketLaws x = CHECK.told("k9 0 0 9;k9 0 3 9;k9 0 3 9;k9 0 3 9;s0 3;s3 2;s2 1;t0 1 0 0;t0 1 0 1;");
        CHECK.due("three are as good", x.saves(0, 1), 30);
        CHECK.due("two are as good", x.saves(1, 3), 120);
        x = CHECK.told("k9 0 0 9;k9 0 3 9;k9 0 3 9;k9 0 4 9;s0 3;s3 2;s2 1;t0 1 0 1;t0 1 0 2;");
        CHECK.due("the later one is better", x.saves(0, 3), 230);
        CHECK.due("the later one is better", x.saves(1, 0), 230);
    }

    private static void promiseWay() {
        CHECK.sentence("WAY (what = 0), CHEAPEST (1); NONE. BAD.");
        PocketLaws x = CHECK.told("k9 0 0 9;k9 0 7 9;k9 0 0 9;s0 1;t0 1 0 0;");
        CHECK.due("way(0, 1, 0)", x.way(0, 1, 0), 1);
        CHECK.due("way(0, 1, 1)", x.way(0, 1, 1), 7);
        CHECK.due("way(0, 1, 2)", x.way(0, 1, 2), PocketLaws.BAD);
        CHECK.due("way(1, 1, 0)", x.way(1, 1, 0), PocketLaws.BAD);
        CHECK.due("way(0, 3, 0)", x.way(0, 3, 0), PocketLaws.BAD);
        CHECK.due("BAD ahead of NONE", x.way(0, 2, 2), PocketLaws.BAD);
        for (int no : NEVER) {
            CHECK.due("way(" + no + ", 0, 0)", x.way(no, 0, 0), PocketLaws.BAD);
            CHECK.due("way(0, " + no + ", 0)", x.way(0, no, 0), PocketLaws.BAD);
            CHECK.due("way(0, 0, " + no + ")", x.way(0, 0, no), PocketLaws.BAD);
        }
    }

    private static void promiseStow() {
        CHECK.sentence("STOW: how many (t = -1), the POCKET of a THING; NONE. BAD.");
        PocketLaws x = CHECK.told("k9 1 0 9;t0 1 0 0;");
        CHECK.due("stow(-1)", x.stow(-1), PocketLaws.NONE);
        CHECK.due("stow(0)", x.stow(0), PocketLaws.NONE);
        for (int no : new int[] {1, -2, Integer.MIN_VALUE, Integer.MAX_VALUE}) {
            CHECK.due("BAD ahead of NONE: stow(" + no + ")", x.stow(no), PocketLaws.BAD);
        }
        x = CHECK.told("k20 0 0 9;" + "t0 1 0 0;".repeat(6));
        CHECK.due("stow(5)", x.stow(5), 0);
        CHECK.due("stow(6)", x.stow(6), PocketLaws.BAD);
    }

    private static void promiseHoard() {
        CHECK.sentence("HOARD. BAD.");
        PocketLaws x = CHECK.told(K.repeat(6) + "t0 1 5 0;");
        CHECK.due("hoard(5)", x.hoard(5), 5);
        CHECK.due("hoard(6)", x.hoard(6), PocketLaws.BAD);
        CHECK.due("hoard(1)", CHECK.told(K + "t0 1 5 0;").hoard(1), PocketLaws.BAD);
        for (int no : NEVER) {
            CHECK.due("hoard(" + no + ")", x.hoard(no), PocketLaws.BAD);
        }
    }

    private static void promiseSaves() {
        CHECK.sentence("SAVES; NONE. BAD.");
        PocketLaws x = CHECK.told("k9 0 0 9;k9 0 7 9;s0 1;t0 1 0 0;");
        CHECK.due("saves(0, 1)", x.saves(0, 1), 10);
        CHECK.due("saves(1, 1)", x.saves(1, 1), PocketLaws.BAD);
        CHECK.due("saves(0, 2)", x.saves(0, 2), PocketLaws.BAD);
        for (int no : NEVER) {
            CHECK.due("saves(" + no + ", 1)", x.saves(no, 1), PocketLaws.BAD);
            CHECK.due("saves(0, " + no + ")", x.saves(0, no), PocketLaws.BAD);
        }
    }
}
