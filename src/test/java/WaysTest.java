/** Promises 13 way, 14 stow, 15 hoard, 16 saves. */
final class WaysTest {
    private static final Check CHECK = new Check("WaysTest");

    public static void main(String[] args) {
        ways();
        stowing();
        stowingNowhere();
        hoards();
        savings();
        wrong();
        CHECK.end();
    }

    private static void ways() {
        PocketLaws x = CHECK.told("k1 1 1 9;k1 0 9 9;k1 0 2 9;k1 0 3 9;k1 0 4 9;k1 1 0 9;s0 1;s1 3;s0 2;s2 4;s4 3;s3 5;t0 5 0 0;");
        CHECK.due("where it is, though outlawed", x.way(0, 0, 0), 0);
        CHECK.due("where it is", x.way(0, 0, 1), 0);
        CHECK.due("fewest; size is not asked", x.way(0, 3, 0), 2);
        CHECK.due("cheapest is longer", x.way(0, 3, 1), 9);
        CHECK.due("not let in", x.way(0, 5, 0), PocketLaws.NONE);
        CHECK.due("not let in", x.way(0, 5, 1), PocketLaws.NONE);
        x = CHECK.told("k1 0 1 9;k1 2 1 9;k1 0 1 9;s0 1;s1 2;h0 2 5;t1 1 0 0;t0 1 0 0;");
        CHECK.due("not through where it is not let in", x.way(0, 2, 0), PocketLaws.NONE);
        CHECK.due("another sort", x.way(1, 2, 0), 2);
        x = CHECK.told("k1 0 1 9;k1 0 5 9;k1 0 7 9;s0 1;s1 2;s0 2;y0 1 3;y2 1 3;t3 1 0 0;t2 1 0 0;");
        CHECK.due("by treaties", x.way(0, 2, 1), 0);
        CHECK.due("not for another sort", x.way(1, 2, 1), 7);
    }

    private static void stowing() {
        PocketLaws x = CHECK.told("k5 0 0 9;k5 0 0 9;k5 0 0 9;t0 3 0 1;t0 3 0 1;t0 2 0 1;");
        CHECK.due("how many", x.stow(-1), 1);
        plan(x, 0, 1, 1);
        x = CHECK.told("k9 1 0 9;k5 0 0 9;k5 2 0 9;t0 4 0 0;t1 2 0 1;t2 1 0 1;");
        CHECK.due("of several the first", x.stow(-1), 1);
        plan(x, 2, 1, 1);
        x = CHECK.told("k9 1 0 9;k5 0 0 9;k3 0 0 9;t0 4 0 0;t1 2 0 1;t2 1 0 1;");
        CHECK.due("of several the first", x.stow(-1), 2);
        plan(x, 1, 0, 1);
        x = CHECK.told("k5 0 0 9;k5 0 0 9;t0 5 0 1;t0 5 0 0;");
        CHECK.due("all lie well", x.stow(-1), 0);
        plan(x, 1, 0);
        CHECK.due("no things", CHECK.told("k5 0 0 9;").stow(-1), 0);
        CHECK.due("nothing is changed", x.thing(0, 3), 1);
        CHECK.due("no pockets", new PocketLaws().stow(-1), 0);
    }

    private static void plan(PocketLaws x, int... pockets) {
        for (int t = 0; t < pockets.length; t++) {
            CHECK.due("stow(" + t + ")", x.stow(t), pockets[t]);
        }
    }

    private static void stowingNowhere() {
        PocketLaws x = CHECK.told("k9 1 0 9;k2 0 0 9;t0 3 0 0;t1 1 0 0;");
        CHECK.due("one can lie nowhere", x.stow(-1), PocketLaws.NONE);
        CHECK.due("nor the other one then", x.stow(1), PocketLaws.NONE);
        x = CHECK.told("k5 0 0 9;k5 0 0 9;t0 3 0 0;t0 3 0 0;t0 3 0 1;");
        CHECK.due("not all of them", x.stow(-1), PocketLaws.NONE);
        CHECK.due("no thing has one", x.stow(0), PocketLaws.NONE);
    }

    private static void hoards() {
        PocketLaws x = CHECK.told("k10 2 0 9;k1 0 0 9;k9 63 0 9;t0 5 9 2;t0 4 7 2;t2 4 7 1;t3 2 3 0;t1 1 9 0;");
        CHECK.due("not the dearest first", x.hoard(0), 17);
        CHECK.due("least", x.hoard(1), 9);
        CHECK.due("nothing is let in", x.hoard(2), 0);
        CHECK.due("no things", CHECK.told("k5 0 0 9;").hoard(0), 0);
    }

    private static void savings() {
        PocketLaws x = CHECK.told("k9 0 9 9;k9 0 4 9;k9 0 6 9;k9 0 1 9;s3 1;s3 2;s2 1;s0 1;t4 1 0 3;t4 1 0 1;");
        CHECK.due("straight there", x.saves(0, 2), 234);
        CHECK.due("the dearer of two", x.saves(0, 0), 14);
        CHECK.due("where it is", x.saves(0, 3), PocketLaws.NONE);
        CHECK.due("lesser pocket first", x.saves(1, 0), 14);
        x = CHECK.told("k9 0 1 9;k9 0 4 9;k9 0 4 9;k9 0 0 9;s0 1;s1 2;s2 3;y0 3 0;t2 1 0 0;t0 1 0 3;t0 1 0 0;");
        CHECK.due("the first of two that are as good", x.saves(0, 2), 12);
        CHECK.due("no seam, no treaty", x.saves(1, 2), 230);
        x = CHECK.told("k9 0 1 9;k9 0 4 9;k9 1 4 9;s0 1;s1 2;y1 0 0;t0 1 0 0;");
        CHECK.due("there is one already", x.saves(0, 1), PocketLaws.NONE);
        CHECK.due("no way at all", x.saves(0, 2), PocketLaws.NONE);
        x = CHECK.told("k9 0 0 9;k9 0 0 9;s0 1;t0 1 0 0;");
        CHECK.due("nothing to be saved", x.saves(0, 1), PocketLaws.NONE);
        x = CHECK.told("k9 0 0 9;k9 0 5 9;k9 0 1 9;s0 1;s0 2;s2 1;t0 1 0 0;");
        CHECK.due("a treaty that opens a longer way is less good", x.saves(0, 1), 10);
    }

    private static void wrong() {
        PocketLaws x = CHECK.told("k9 0 0 9;k9 0 0 9;s0 1;t0 1 0 0;");
        for (int no : new int[] {-1, 2, Integer.MIN_VALUE, Integer.MAX_VALUE}) {
            CHECK.due("way", x.way(no, 0, 0), PocketLaws.BAD);
            CHECK.due("way", x.way(0, no, 0), PocketLaws.BAD);
            CHECK.due("way", x.way(0, 0, no), PocketLaws.BAD);
            CHECK.due("hoard", x.hoard(no), PocketLaws.BAD);
            CHECK.due("saves", x.saves(no, 0), PocketLaws.BAD);
            CHECK.due("saves", x.saves(0, no), PocketLaws.BAD);
        }
        for (int no : new int[] {-2, 1, Integer.MIN_VALUE, Integer.MAX_VALUE}) {
            CHECK.due("stow", x.stow(no), PocketLaws.BAD);
        }
    }
}
