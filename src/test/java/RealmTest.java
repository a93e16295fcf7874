/** Promises 1 a new object, 5 pocket, 6 thing, 7 letsIn, 8 fixed, 9 now, and of 24 count the rest. */
final class RealmTest {
    private static final Check CHECK = new Check("RealmTest");

    public static void main(String[] args) {
        constants();
        aNewObject();
        pocketsAndThings();
        lawsAsOthersAre();
        lawsThatCannotHold();
        outersDecideToo();
        parts();
        CHECK.end();
    }

    private static void constants() {
        CHECK.due("BAD", PocketLaws.BAD, -1);
        CHECK.due("STATE", PocketLaws.STATE, -2);
        CHECK.due("FULL", PocketLaws.FULL, -3);
        CHECK.due("NONE", PocketLaws.NONE, -9);
        CHECK.due("NO", PocketLaws.NO, -1000000);
    }

    private static void aNewObject() {
        PocketLaws x = new PocketLaws();
        for (int what = 0; what < 4; what++) {
            CHECK.due("count(" + what + ")", x.count(what), 0);
        }
        CHECK.due("count(-1)", x.count(-1), PocketLaws.BAD);
        CHECK.due("count(4)", x.count(4), PocketLaws.BAD);
        for (int what = 0; what < 5; what++) {
            CHECK.due("now(" + what + ")", x.now(what), 0);
        }
        CHECK.due("now(-1)", x.now(-1), PocketLaws.BAD);
        CHECK.due("now(5)", x.now(5), PocketLaws.BAD);
        for (int sort = 0; sort < 6; sort++) {
            CHECK.due("fixed(" + sort + ")", x.fixed(sort), 1);
        }
        CHECK.due("pocket(0, 0)", x.pocket(0, 0), PocketLaws.BAD);
        CHECK.due("thing(0, 0)", x.thing(0, 0), PocketLaws.BAD);
        CHECK.due("letsIn(0, 0)", x.letsIn(0, 0), PocketLaws.BAD);
        CHECK.due("trace()", x.trace(), 0);
    }

    private static void pocketsAndThings() {
        PocketLaws x = CHECK.told("k9 5 3 9;k20 63 9 0;k1 0 0 1;s0 2;s1 2;h1 0 5;y0 1 2;y1 0 2;a2 0;t1 2 7 0;t5 3 0 0;t2 5 9 2;");
        row(x, 0, 9, 5, 3, 9, 5, 0, 4, PocketLaws.NONE);
        row(x, 1, 20, 63, 9, 0, 0, 1, 4, 0);
        row(x, 2, 1, 0, 0, 1, 5, 2, 3, PocketLaws.NONE);
        int[][] things = {{1, 2, 7, 0, 0}, {5, 3, 0, 0, 0}, {2, 5, 9, 2, 1}};
        for (int t = 0; t < 3; t++) {
            for (int what = 0; what < 5; what++) {
                CHECK.due("thing(" + t + ", " + what + ")", x.thing(t, what), things[t][what]);
            }
        }
        CHECK.due("outlawed", x.now(2), 4);
        CHECK.due("pockets", x.count(0), 3);
        CHECK.due("things", x.count(1), 3);
        CHECK.due("treaties told", x.count(2), 2);
        for (int wrong : new int[] {-1, 3, Integer.MIN_VALUE, Integer.MAX_VALUE}) {
            CHECK.due("pocket " + wrong, x.pocket(wrong, 0), PocketLaws.BAD);
            CHECK.due("thing " + wrong, x.thing(wrong, 0), PocketLaws.BAD);
            CHECK.due("letsIn " + wrong, x.letsIn(wrong, 0), PocketLaws.BAD);
        }
        for (int wrong : new int[] {-1, 8}) {
            CHECK.due("pocket's " + wrong, x.pocket(0, wrong), PocketLaws.BAD);
            CHECK.due("thing's " + wrong, x.thing(0, wrong), PocketLaws.BAD);
            CHECK.due("letsIn's " + wrong, x.letsIn(0, wrong), PocketLaws.BAD);
            CHECK.due("fixed " + wrong, x.fixed(wrong), PocketLaws.BAD);
        }
        CHECK.due("thing's 5", x.thing(0, 5), PocketLaws.BAD);
        CHECK.due("letsIn's 6", x.letsIn(0, 6), PocketLaws.BAD);
        CHECK.due("fixed 6", x.fixed(6), PocketLaws.BAD);
    }

    private static void row(PocketLaws x, int k, int... want) {
        for (int what = 0; what < 8; what++) {
            CHECK.due("pocket(" + k + ", " + what + ")", x.pocket(k, what), want[what]);
        }
    }

    private static void lawsAsOthersAre() {
        PocketLaws x = CHECK.told("k9 2 0 9;k9 0 0 9;k9 63 0 9;a1 0;n2 1;");
        CHECK.due("as", x.letsIn(1, 1), 0);
        CHECK.due("as", x.letsIn(1, 0), 1);
        CHECK.due("not as", x.letsIn(2, 1), 1);
        CHECK.due("not as", x.letsIn(2, 0), 0);
        CHECK.due("what it forbids stays as told", x.pocket(2, 1), 63);
        CHECK.due("one way", x.fixed(0), 1);
        x = CHECK.told("k9 0 0 9;k9 0 0 9;k9 0 0 9;k9 0 0 9;n0 1;n1 0;a2 3;a3 2;k9 1 0 9;");
        CHECK.due("two rings of two", x.fixed(3), 4);
        CHECK.due("not in all", x.letsIn(0, 3), 0);
        CHECK.due("not in all", x.letsIn(2, 3), 0);
        CHECK.due("its own in all", x.letsIn(4, 3), 1);
        CHECK.due("its own forbids", x.letsIn(4, 0), 0);
    }

    private static void lawsThatCannotHold() {
        PocketLaws x = CHECK.told("k9 0 0 9;k9 0 0 9;k9 0 0 9;a0 1;n1 0;t0 1 0 2;");
        CHECK.due("no way", x.fixed(0), 0);
        CHECK.due("its own, but there is no way", x.letsIn(2, 0), 0);
        CHECK.due("outlawed", x.thing(0, 4), 1);
        x = CHECK.told("k9 0 0 9;k9 0 0 9;k9 0 0 9;n0 1;n1 2;n2 0;");
        CHECK.due("a ring of three nots", x.fixed(5), 0);
    }

    private static void outersDecideToo() {
        PocketLaws x = CHECK.told("k9 1 0 9;k9 2 0 0;k9 4 0 1;n2 0;");
        CHECK.due("its outer's outer forbids", x.letsIn(2, 0), 0);
        CHECK.due("its outer forbids", x.letsIn(2, 1), 0);
        CHECK.due("itself does not", x.letsIn(2, 2), 0);
        CHECK.due("its outer forbids", x.letsIn(1, 0), 0);
        CHECK.due("all let in", x.letsIn(1, 2), 1);
        CHECK.due("within it does not matter", x.letsIn(0, 1), 1);
        CHECK.due("depth", x.pocket(2, 5), 2);
    }

    private static void parts() {
        CHECK.due("a ring", CHECK.told("k9 0 0 9;k9 0 0 0;k9 0 0 0;s0 1;s2 1;s0 2;").now(3), 1);
        CHECK.due("by seams alone", CHECK.told("k9 0 0 9;k9 0 0 0;k9 0 0 0;h0 1 5;y1 2 0;").now(3), 3);
        CHECK.due("a chain out of order", CHECK.told("k9 0 0 9;".repeat(6) + "s0 5;s5 1;s1 4;s4 2;").now(3), 2);
    }
}
