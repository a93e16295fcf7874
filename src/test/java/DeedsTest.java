/** Promises 10 moves, 11 night, 12 undo. */
final class DeedsTest {
    private static final Check CHECK = new Check("DeedsTest");

    public static void main(String[] args) {
        moved();
        refused();
        dropped();
        undone();
        tenAreKnown();
        lastDay();
        CHECK.end();
    }

    private static void moved() {
        PocketLaws x = CHECK.told("k9 0 3 9;k9 0 5 9;k9 0 7 9;s0 1;s1 2;y1 0 2;y1 2 3;t2 2 0 0;t3 2 0 0;");
        CHECK.due("by treaty", x.moves(0, 1), 0);
        CHECK.due("a treaty for another sort", x.moves(1, 1), 5);
        CHECK.due("no treaty", x.moves(0, 2), 7);
        CHECK.due("by treaty", x.moves(1, 2), 0);
        CHECK.due("and back", x.moves(0, 1), 5);
        CHECK.due("by treaty either way", x.moves(0, 0), 0);
        CHECK.due("paid", x.now(1), 17);
        CHECK.due("no night is over", x.now(0), 0);
        CHECK.due("where", x.thing(0, 3), 0);
        CHECK.due("where", x.thing(1, 3), 2);
        CHECK.due("filled", x.pocket(2, 4), 2);
        CHECK.due("to be undone", x.now(4), 6);
    }

    private static void refused() {
        PocketLaws x = CHECK.told("k9 0 0 9;k4 2 1 9;k9 0 0 1;s0 1;s1 2;h0 2 5;t1 1 0 0;t0 3 0 0;t0 2 0 0;t0 4 0 1;");
        CHECK.due("where it is", x.moves(1, 0), PocketLaws.STATE);
        CHECK.due("no seam", x.moves(1, 2), PocketLaws.STATE);
        CHECK.due("forbidden", x.moves(0, 1), PocketLaws.STATE);
        CHECK.due("filled", x.moves(1, 1), PocketLaws.STATE);
        CHECK.due("out of it", x.moves(3, 2), 0);
        CHECK.due("now there is room", x.moves(1, 1), 1);
        CHECK.due("above size", x.moves(2, 1), PocketLaws.STATE);
        CHECK.due("refused ones are not known", x.now(4), 2);
        for (int wrong : new int[] {-1, 4, Integer.MIN_VALUE, Integer.MAX_VALUE}) {
            CHECK.due("thing " + wrong, x.moves(wrong, 0), PocketLaws.BAD);
            CHECK.due("to " + wrong, x.moves(0, wrong), PocketLaws.BAD);
        }
        CHECK.due("to the size", CHECK.told("k9 0 0 9;k5 0 2 9;s0 1;t0 5 0 0;").moves(0, 1), 2);
        CHECK.due("from where it is outlawed", CHECK.told("k9 1 0 9;k5 0 2 9;s0 1;t0 5 0 0;").moves(0, 1), 2);
    }

    private static void dropped() {
        PocketLaws x = CHECK.told("k9 0 9 9;k3 63 9 9;k9 0 9 9;h0 1 3;h1 2 5;t0 4 0 0;t0 2 0 0;t0 3 0 0;t0 1 0 0;t0 3 0 1;");
        CHECK.due("night: too great, no room, no room, no room, drops", x.night(), 1);
        CHECK.due("where", x.thing(4, 3), 2);
        CHECK.due("night: the laws are not asked", x.night(), 2);
        CHECK.due("thing 0", x.thing(0, 3), 0);
        CHECK.due("thing 1", x.thing(1, 3), 1);
        CHECK.due("thing 2", x.thing(2, 3), 0);
        CHECK.due("thing 3", x.thing(3, 3), 1);
        CHECK.due("nothing is paid", x.now(1), 0);
        CHECK.due("days", x.now(0), 2);
        CHECK.due("outlawed", x.now(2), 10);
        x = CHECK.told("k9 0 0 9;k9 0 0 9;h0 1 5;h1 0 5;t0 5 0 0;t0 5 0 1;");
        CHECK.due("each waits for the other one", x.night(), 0);
        x = CHECK.told("k9 0 0 9;k5 0 0 9;h0 1 5;h1 0 5;t0 4 0 1;t0 5 0 0;");
        CHECK.due("the first makes room for the second", x.night(), 2);
    }

    private static void undone() {
        PocketLaws x = CHECK.told("k9 0 2 9;k9 0 3 9;s0 1;h1 0 5;t0 1 0 0;");
        CHECK.due("none", x.undo(), PocketLaws.STATE);
        x.moves(0, 1);
        x.night();
        x.moves(0, 1);
        CHECK.due("paid", x.now(1), 6);
        CHECK.due("undo moves", x.undo(), 2);
        CHECK.due("paid", x.now(1), 3);
        CHECK.due("where", x.thing(0, 3), 0);
        CHECK.due("undo night", x.undo(), 1);
        CHECK.due("days", x.now(0), 0);
        CHECK.due("where", x.thing(0, 3), 1);
        CHECK.due("undo moves", x.undo(), 0);
        CHECK.due("where", x.thing(0, 3), 0);
        CHECK.due("paid", x.now(1), 0);
        CHECK.due("none", x.undo(), PocketLaws.STATE);
    }

    private static void tenAreKnown() {
        PocketLaws x = CHECK.told("k9 0 2 9;k9 0 3 9;h1 0 5;h0 1 5;t0 1 0 0;");
        for (int i = 1; i <= 13; i++) {
            x.night();
            CHECK.due("known behind " + i, x.now(4), Math.min(i, 10));
        }
        for (int left = 9; left >= 0; left--) {
            CHECK.due("undo", x.undo(), left);
            CHECK.due("days", x.now(0), 3 + left);
            CHECK.due("where", x.thing(0, 3), (3 + left) % 2);
        }
        CHECK.due("older ones are lost", x.undo(), PocketLaws.STATE);
        CHECK.due("days", x.now(0), 3);
    }

    private static void lastDay() {
        // More than 512 calls, so no promise speaks of it; the limit is the document's all the same.
        PocketLaws x = new PocketLaws();
        for (int i = 0; i < 999; i++) {
            x.night();
        }
        CHECK.due("days", x.now(0), 999);
        CHECK.due("night", x.night(), PocketLaws.STATE);
        CHECK.due("days", x.now(0), 999);
        CHECK.due("known", x.now(4), 10);
    }
}
