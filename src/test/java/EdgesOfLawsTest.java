/** The document's second part, promises 1, 5 to 9 and 24: for each sentence that names a boundary, a test of its own. */
final class EdgesOfLawsTest {
    private static final Check CHECK = new Check("EdgesOfLawsTest");
    private static final String K = "k9 0 0 9;";
    private static final int[] NEVER = {-1, Integer.MIN_VALUE, Integer.MAX_VALUE};

    public static void main(String[] args) {
        aNewObject();
        ownLaws();
        asAndNotAs();
        fixedPoints();
        noPockets();
        inAllOfThese();
        oneAtLeast();
        outersToo();
        outlawed();
        filled();
        depths();
        parts();
        promisePocket();
        promiseThing();
        promiseLetsIn();
        promiseFixed();
        promiseNow();
        promiseCount();
        CHECK.end();
    }

    private static void aNewObject() {
        CHECK.sentence("As told; no POCKETS.");
        PocketLaws x = new PocketLaws();
        for (int i = 0; i < 6; i++) {
            CHECK.due("pocket", x.pocket(i, 0), PocketLaws.BAD);
            CHECK.due("thing", x.thing(i, 0), PocketLaws.BAD);
            CHECK.due("letsIn", x.letsIn(i, 0), PocketLaws.BAD);
            CHECK.due("moves", x.moves(i, i), PocketLaws.BAD);
            CHECK.due("way", x.way(i, i, 0), PocketLaws.BAD);
            CHECK.due("stow", x.stow(i), PocketLaws.BAD);
            CHECK.due("hoard", x.hoard(i), PocketLaws.BAD);
            CHECK.due("saves", x.saves(i, i), PocketLaws.BAD);
            CHECK.due("drops", x.drops(i, 0), PocketLaws.BAD);
            CHECK.due("lay", x.lay(i, 0), PocketLaws.BAD);
            CHECK.due("stitches", x.stitches(i, i + 1, 0), PocketLaws.BAD);
            CHECK.due("odds", x.odds(i, i, 0, 0, 0), PocketLaws.BAD);
            CHECK.due("rate", x.rate(i, i), PocketLaws.NO);
            CHECK.due("fixed", x.fixed(i), 1);
            CHECK.due("now", x.now(i), i < 5 ? 0 : PocketLaws.BAD);
            CHECK.due("count", x.count(i), i < 4 ? 0 : PocketLaws.BAD);
        }
        CHECK.due("undo", x.undo(), PocketLaws.STATE);
        CHECK.due("back", x.back(0), PocketLaws.STATE);
        CHECK.due("back", x.back(1), PocketLaws.STATE);
        CHECK.due("stow", x.stow(-1), 0);
        CHECK.due("trace", x.trace(), 0);
        CHECK.due("keep", x.keep(0), 0);
        CHECK.due("night", x.night(), 0);
        CHECK.due("days", x.now(0), 1);
        CHECK.due("clear", x.clear(), 0);
        CHECK.due("one object is not another one", new PocketLaws().now(0), 0);
    }

    private static void ownLaws() {
        CHECK.sentence("by its own LAW just if it does not FORBID it");
        PocketLaws x = CHECK.told("k9 33 0 9;k9 30 0 9;");
        for (int sort = 0; sort < 6; sort++) {
            boolean first = sort == 0 || sort == 5;
            CHECK.due("letsIn(0, " + sort + ")", x.letsIn(0, sort), first ? 0 : 1);
            CHECK.due("letsIn(1, " + sort + ")", x.letsIn(1, sort), first ? 1 : 0);
        }
    }

    private static void asAndNotAs() {
        CHECK.sentence("AS: just if the other one does; NOT AS: just if that does not");
        PocketLaws x = CHECK.told("k9 63 0 9;k9 0 0 9;k9 1 0 9;k9 63 0 9;a0 2;n1 2;n3 1;");
        for (int sort = 0; sort < 6; sort++) {
            int own = sort == 0 ? 0 : 1;
            CHECK.due("as, its own is not asked", x.letsIn(0, sort), own);
            CHECK.due("not as, its own is not asked", x.letsIn(1, sort), 1 - own);
            CHECK.due("the other one", x.letsIn(2, sort), own);
            CHECK.due("not as one that is not as", x.letsIn(3, sort), own);
            CHECK.due("one way", x.fixed(sort), 1);
        }
        x = CHECK.told("k9 1 0 9;" + K.repeat(5) + "a5 4;a4 3;n3 2;a2 1;a1 0;");
        CHECK.due("a chain of six", x.letsIn(5, 0), 1);
        CHECK.due("a chain of six", x.letsIn(5, 1), 0);
        x = CHECK.told(K.repeat(5) + "k9 1 0 9;a0 1;a1 2;n2 3;a3 4;a4 5;");
        CHECK.due("a chain of six", x.letsIn(0, 0), 1);
        CHECK.due("a chain of six", x.letsIn(0, 1), 0);
    }

    private static void fixedPoints() {
        CHECK.sentence("In how many ways: FIXED POINTS");
        ways(K, 1);
        ways(K.repeat(6), 1);
        ways(K.repeat(2) + "a0 1;a1 0;", 2);
        ways(K.repeat(2) + "n0 1;n1 0;", 2);
        ways(K.repeat(2) + "a0 1;n1 0;", 0);
        ways(K.repeat(3) + "n0 1;n1 2;n2 0;", 0);
        ways(K.repeat(3) + "n0 1;n1 2;a2 0;", 2);
        ways(K.repeat(6) + "a0 1;a1 0;n2 3;n3 2;", 4);
        ways(K.repeat(6) + "a0 1;a1 0;n2 3;n3 2;a4 5;a5 4;", 8);
        ways(K.repeat(6) + "a0 1;a1 0;n2 3;n3 2;a4 5;n5 4;", 0);
        ways(K.repeat(6) + "a0 1;a1 2;a2 3;a3 4;a4 5;a5 0;", 2);
    }

    private static void ways(String text, int want) {
        PocketLaws x = CHECK.told(text);
        for (int sort = 0; sort < 6; sort++) {
            CHECK.due("fixed(" + sort + ") of " + text, x.fixed(sort), want);
        }
    }

    private static void noPockets() {
        CHECK.sentence("FIXED POINTS (no POCKETS: 1)");
        ways("", 1);
        PocketLaws x = CHECK.told(K + K + "a0 1;n1 0;");
        CHECK.due("none", x.fixed(0), 0);
        CHECK.due("told anew", x.realm(), 0);
        CHECK.due("no pockets again", x.fixed(0), 1);
    }

    private static void inAllOfThese() {
        CHECK.sentence("A POCKET LETS a SORT IN, if it ALLOWS it in all of these");
        PocketLaws x = CHECK.told(K.repeat(6) + "a0 1;a1 0;a2 0;n3 0;");
        CHECK.due("two ways", x.fixed(0), 2);
        for (int k = 0; k < 6; k++) {
            CHECK.due("letsIn(" + k + ", 0)", x.letsIn(k, 0), k < 4 ? 0 : 1);
        }
        x = CHECK.told("k9 63 0 9;" + K.repeat(3) + "n2 3;n3 2;n1 0;");
        CHECK.due("in both", x.letsIn(1, 0), 1);
        CHECK.due("in neither", x.letsIn(0, 0), 0);
        CHECK.due("in one", x.letsIn(2, 0), 0);
        CHECK.due("in the other one", x.letsIn(3, 0), 0);
    }

    private static void oneAtLeast() {
        CHECK.sentence("there is one at least");
        PocketLaws x = CHECK.told(K.repeat(4) + "a0 1;n1 0;s2 3;t0 1 5 2;");
        for (int k = 0; k < 4; k++) {
            for (int sort = 0; sort < 6; sort++) {
                CHECK.due("letsIn(" + k + ", " + sort + ")", x.letsIn(k, sort), 0);
            }
        }
        CHECK.due("outlawed everywhere", x.now(2), 1);
        CHECK.due("moved nowhere", x.moves(0, 3), PocketLaws.STATE);
        CHECK.due("stowed nowhere", x.stow(-1), PocketLaws.NONE);
        CHECK.due("hoarded nowhere", x.hoard(2), 0);
    }

    private static void outersToo() {
        CHECK.sentence("and so does its OUTER, and theirs");
        for (int strict = 0; strict < 6; strict++) {
            StringBuilder chain = new StringBuilder();
            for (int k = 0; k < 6; k++) {
                chain.append("k9 ").append(k == strict ? 8 : 0).append(" 0 ").append(k == 0 ? 9 : k - 1).append(';');
            }
            PocketLaws x = CHECK.told(chain.toString());
            for (int k = 0; k < 6; k++) {
                CHECK.due("letsIn(" + k + ", 3), forbidden by " + strict, x.letsIn(k, 3), k < strict ? 1 : 0);
                CHECK.due("letsIn(" + k + ", 2)", x.letsIn(k, 2), 1);
            }
        }
        PocketLaws x = CHECK.told("k9 0 0 9;k9 0 0 9;k9 0 0 0;k9 0 0 2;a0 1;a1 0;");
        CHECK.due("its outer does not in all of these", x.letsIn(2, 0), 0);
        CHECK.due("nor theirs", x.letsIn(3, 0), 0);
        x = CHECK.told("k9 1 0 9;k9 0 0 0;k9 0 0 9;a2 1;");
        CHECK.due("by its outer", x.letsIn(1, 0), 0);
        CHECK.due("as that one allows, not as it lets in", x.letsIn(2, 0), 1);
        x = CHECK.told("k9 1 0 9;k9 63 0 0;k9 0 0 1;n0 1;");
        CHECK.due("a law of an outer that is not as one within", x.letsIn(0, 0), 1);
        CHECK.due("forbids itself", x.letsIn(1, 0), 0);
        CHECK.due("within one that forbids", x.letsIn(2, 0), 0);
    }

    private static void outlawed() {
        CHECK.sentence("A THING is OUTLAWED, if its POCKET does not LET it IN");
        PocketLaws x = CHECK.told("k20 1 0 9;k20 0 0 0;k20 0 0 9;t0 1 0 0;t1 1 0 0;t0 1 0 1;t1 1 0 1;t0 1 0 2;t0 1 0 1;");
        int[] want = {1, 0, 1, 0, 0, 1};
        int bits = 0;
        for (int t = 0; t < 6; t++) {
            CHECK.due("thing(" + t + ", 4)", x.thing(t, 4), want[t]);
            bits |= want[t] << t;
        }
        CHECK.due("as bits", x.now(2), bits);
        x = CHECK.told("k20 0 0 9;k1 2 0 9;s0 1;h0 1 1;t1 1 0 0;");
        CHECK.due("not yet", x.thing(0, 4), 0);
        x.night();
        CHECK.due("where it dropped", x.thing(0, 4), 1);
        CHECK.due("where it dropped", x.now(2), 1);
        x.undo();
        CHECK.due("not any more", x.now(2), 0);
        x = CHECK.told("k1 0 0 9;t0 5 0 0;");
        CHECK.due("size does not outlaw", x.thing(0, 4), 0);
    }

    private static void filled() {
        CHECK.sentence("(those in POCKETS within it do not count)");
        PocketLaws x = CHECK.told("k9 0 0 9;k9 0 0 0;k9 0 0 1;s0 1;t0 1 0 0;t0 2 0 1;t0 3 0 2;t0 4 0 2;");
        CHECK.due("filled", x.pocket(0, 4), 1);
        CHECK.due("filled", x.pocket(1, 4), 2);
        CHECK.due("filled", x.pocket(2, 4), 7);
        CHECK.due("rate", x.rate(0, 0), 1);
        x = CHECK.told("k5 0 0 9;k9 0 0 0;k9 0 0 9;s0 2;t0 5 0 1;t0 5 0 2;");
        CHECK.due("nor when something is moved", x.moves(1, 0), 0);
        x = CHECK.told("k5 0 0 9;k9 0 0 0;k9 0 0 9;h2 0 5;t0 5 0 1;t0 5 0 2;");
        CHECK.due("nor by night", x.night(), 1);
        x = CHECK.told("k5 0 0 9;k5 0 0 0;t0 5 0 0;t0 5 0 1;");
        CHECK.due("nor when all is stowed", x.stow(-1), 0);
        CHECK.sentence("FILLED: the BULK of all THINGS in a POCKET");
        x = CHECK.told("k1 0 0 9;k1 0 0 9;" + "t0 5 0 1;".repeat(6));
        CHECK.due("above size, as told", x.pocket(1, 4), 30);
        CHECK.due("empty", x.pocket(0, 4), 0);
    }

    private static void depths() {
        CHECK.sentence("DEPTH of a POCKET: how many it is within");
        PocketLaws x = CHECK.told("k9 0 0 9;k9 0 0 0;k9 0 0 1;k9 0 0 2;k9 0 0 3;k9 0 0 4;");
        for (int k = 0; k < 6; k++) {
            CHECK.due("depth", x.pocket(k, 5), k);
        }
        x = CHECK.told("k9 0 0 9;k9 0 0 0;k9 0 0 0;k9 0 0 9;k9 0 0 2;");
        int[] want = {0, 1, 1, 0, 2};
        for (int k = 0; k < 5; k++) {
            CHECK.due("depth", x.pocket(k, 5), want[k]);
        }
    }

    private static void parts() {
        CHECK.sentence("PARTS: how many parts POCKETS fall into by SEAMS");
        CHECK.due("no pockets", new PocketLaws().now(3), 0);
        for (int n = 1; n <= 6; n++) {
            CHECK.due("no seams", CHECK.told(K.repeat(n)).now(3), n);
        }
        StringBuilder chain = new StringBuilder(K.repeat(6));
        for (int k = 0; k < 5; k++) {
            chain.append('s').append(k).append(' ').append(k + 1).append(';');
            CHECK.due("a chain", CHECK.told(chain.toString()).now(3), 5 - k);
        }
        CHECK.due("a chain back and forth", CHECK.told(K.repeat(6) + "s0 5;s5 1;s1 4;s4 2;s2 3;").now(3), 1);
        CHECK.due("two rings", CHECK.told(K.repeat(6) + "s0 2;s2 4;s4 0;s1 3;s3 5;s5 1;").now(3), 2);
        CHECK.due("not by holes, outers, treaties, laws",
            CHECK.told("k9 0 0 9;k9 0 0 0;h0 1 5;h1 0 5;y0 1 0;a0 1;").now(3), 2);
        CHECK.due("seams that let nothing over", CHECK.told("k1 63 9 9;k1 63 9 9;s0 1;").now(3), 1);
    }

    private static void promisePocket() {
        CHECK.sentence("3 OUTER (9), 4 FILLED, 5 DEPTH, 6 those it has a SEAM with (bits), 7 where its HOLE leads (NONE). BAD.");
        PocketLaws x = CHECK.told(K.repeat(5) + "k20 63 9 4;s5 0;s4 5;s5 2;h5 0 1;h0 5 1;t0 4 0 5;");
        int[] last = {20, 63, 9, 4, 4, 1, 21, 0};
        int[] first = {9, 0, 0, 9, 0, 0, 32, 5};
        int[] lone = {9, 0, 0, 9, 0, 0, 0, PocketLaws.NONE};
        for (int what = 0; what < 8; what++) {
            CHECK.due("pocket(5, " + what + ")", x.pocket(5, what), last[what]);
            CHECK.due("pocket(0, " + what + ")", x.pocket(0, what), first[what]);
            CHECK.due("pocket(1, " + what + ")", x.pocket(1, what), lone[what]);
            CHECK.due("pocket(6, " + what + ")", x.pocket(6, what), PocketLaws.BAD);
        }
        CHECK.due("pocket(0, 8)", x.pocket(0, 8), PocketLaws.BAD);
        for (int no : NEVER) {
            CHECK.due("pocket(" + no + ", 0)", x.pocket(no, 0), PocketLaws.BAD);
            CHECK.due("pocket(0, " + no + ")", x.pocket(0, no), PocketLaws.BAD);
        }
    }

    private static void promiseThing() {
        CHECK.sentence("3 its POCKET, 4 whether it is OUTLAWED. BAD.");
        PocketLaws x = CHECK.told("k9 32 0 9;" + K + "t0 1 0 0;".repeat(5) + "t5 5 9 1;");
        int[] last = {5, 5, 9, 1, 0};
        int[] first = {0, 1, 0, 0, 0};
        for (int what = 0; what < 5; what++) {
            CHECK.due("thing(5, " + what + ")", x.thing(5, what), last[what]);
            CHECK.due("thing(0, " + what + ")", x.thing(0, what), first[what]);
            CHECK.due("thing(6, " + what + ")", x.thing(6, what), PocketLaws.BAD);
        }
        CHECK.due("thing(0, 5)", x.thing(0, 5), PocketLaws.BAD);
        for (int no : NEVER) {
            CHECK.due("thing(" + no + ", 0)", x.thing(no, 0), PocketLaws.BAD);
            CHECK.due("thing(0, " + no + ")", x.thing(0, no), PocketLaws.BAD);
        }
        CHECK.due("pockets, no things", CHECK.told(K).thing(0, 0), PocketLaws.BAD);
    }

    private static void promiseLetsIn() {
        CHECK.sentence("Whether a POCKET LETS a SORT IN (1, 0). BAD.");
        PocketLaws x = CHECK.told("k9 0 0 9;k9 32 0 9;");
        CHECK.due("letsIn(1, 5)", x.letsIn(1, 5), 0);
        CHECK.due("letsIn(0, 5)", x.letsIn(0, 5), 1);
        CHECK.due("letsIn(0, 6)", x.letsIn(0, 6), PocketLaws.BAD);
        CHECK.due("letsIn(2, 0)", x.letsIn(2, 0), PocketLaws.BAD);
        for (int no : NEVER) {
            CHECK.due("letsIn(" + no + ", 0)", x.letsIn(no, 0), PocketLaws.BAD);
            CHECK.due("letsIn(0, " + no + ")", x.letsIn(0, no), PocketLaws.BAD);
        }
    }

    private static void promiseFixed() {
        CHECK.sentence("FIXED POINTS of a SORT. BAD.");
        PocketLaws x = CHECK.told(K);
        CHECK.due("fixed(5)", x.fixed(5), 1);
        CHECK.due("fixed(6)", x.fixed(6), PocketLaws.BAD);
        for (int no : NEVER) {
            CHECK.due("fixed(" + no + ")", x.fixed(no), PocketLaws.BAD);
        }
    }

    private static void promiseNow() {
        CHECK.sentence("0 DAYS, 1 what was PAID in all, 2 THINGS OUTLAWED (bits), 3 PARTS, 4 how many may be UNDONE. BAD.");
        PocketLaws x = CHECK.told("k9 0 7 9;k9 0 9 9;k9 0 0 9;s0 1;t0 1 0 0;");
        x.moves(0, 1);
        x.moves(0, 0);
        x.night();
        int[] want = {1, 16, 0, 2, 3, PocketLaws.BAD};
        for (int what = 0; what < 6; what++) {
            CHECK.due("now(" + what + ")", x.now(what), want[what]);
        }
        for (int no : NEVER) {
            CHECK.due("now(" + no + ")", x.now(no), PocketLaws.BAD);
        }
    }

    private static void promiseCount() {
        CHECK.sentence("0 POCKETS, 1 THINGS, 2 TREATIES told, 3 letters of THE TEXT. BAD.");
        PocketLaws x = CHECK.told(K + K + "t0 1 0 0;t0 1 0 0;t0 1 0 0;y0 1 0;y1 0 0;y0 1 1;y0 1 0;");
        Check.type(x, "?????");
        int[] want = {2, 3, 4, 5, PocketLaws.BAD};
        for (int what = 0; what < 5; what++) {
            CHECK.due("count(" + what + ")", x.count(what), want[what]);
        }
        for (int no : NEVER) {
            CHECK.due("count(" + no + ")", x.count(no), PocketLaws.BAD);
        }
    }
}
