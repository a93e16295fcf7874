/** Promises 21 rate, 22 keep, 23 back, 25 trace. */
final class KindsTest {
    private static final Check CHECK = new Check("KindsTest");
    private static final String TEXT = "k9 0 2 9;k8 0 5 0;k7 0 9 1;s0 1;s1 2;h2 0 5;t0 3 0 2;t1 1 0 2;";

    public static void main(String[] args) {
        rates();
        wrongRates();
        images();
        traceGoesOn();
        CHECK.end();
    }

    private static void rates() {
        PocketLaws x = CHECK.told(TEXT);
        int[] pocket2 = {4, 11, -5, 22, -3, 6};
        int[] pocket0 = {0, 9, -2, 18, -2, 0};
        int[] added = {1, 11, 101, 1011, 10101, 100001};
        long trace = 0;
        for (int kind = 0; kind < 6; kind++) {
            CHECK.due("rate(" + kind + ", 2)", x.rate(kind, 2), pocket2[kind]);
            trace += added[kind];
            CHECK.due("trace", x.trace(), trace);
            CHECK.due("rate(" + kind + ", 0)", x.rate(kind, 0), pocket0[kind]);
            trace += added[kind];
            CHECK.due("trace", x.trace(), trace);
        }
    }

    private static void wrongRates() {
        PocketLaws x = CHECK.told(TEXT);
        for (int no : new int[] {-1, 6, Integer.MIN_VALUE, Integer.MAX_VALUE}) {
            CHECK.due("rate", x.rate(no, 0), PocketLaws.NO);
            CHECK.due("rate", x.rate(0, no), PocketLaws.NO);
        }
        CHECK.due("rate", x.rate(5, 3), PocketLaws.NO);
        CHECK.due("rate", new PocketLaws().rate(0, 0), PocketLaws.NO);
        CHECK.due("nothing was asked", x.trace(), 0);
    }

    private static void images() {
        PocketLaws x = CHECK.told(TEXT);
        CHECK.due("none kept", x.back(0), PocketLaws.STATE);
        CHECK.due("none kept", x.back(1), PocketLaws.STATE);
        CHECK.due("keep", x.keep(0), 0);
        x.moves(0, 1);
        x.night();
        CHECK.due("keep", x.keep(1), 1);
        CHECK.due("keep does not forget", x.now(4), 2);
        x.moves(0, 0);
        CHECK.due("paid", x.now(1), 7);
        CHECK.due("back", x.back(0), 0);
        CHECK.due("days", x.now(0), 0);
        CHECK.due("paid", x.now(1), 0);
        CHECK.due("where", x.thing(0, 3), 2);
        CHECK.due("where", x.thing(1, 3), 2);
        CHECK.due("none to be undone", x.undo(), PocketLaws.STATE);
        CHECK.due("back", x.back(1), 1);
        CHECK.due("paid", x.now(1), 5);
        CHECK.due("where", x.thing(0, 3), 1);
        CHECK.due("where", x.thing(1, 3), 0);
        x.night();
        CHECK.due("undo", x.undo(), 0);
        CHECK.due("an image stays", x.back(0), 0);
        CHECK.due("kept anew", x.keep(1), 0);
        x.night();
        CHECK.due("back to that", x.back(1), 0);
        for (int no : new int[] {-1, 2, Integer.MIN_VALUE, Integer.MAX_VALUE}) {
            CHECK.due("keep", x.keep(no), PocketLaws.BAD);
            CHECK.due("back", x.back(no), PocketLaws.BAD);
        }
    }

    private static void traceGoesOn() {
        PocketLaws x = CHECK.told(TEXT);
        x.keep(0);
        x.night();
        x.rate(0, 0);
        x.undo();
        CHECK.due("behind undo", x.trace(), 1);
        x.back(0);
        CHECK.due("behind back", x.trace(), 1);
        x.realm();
        CHECK.due("behind realm", x.trace(), 1);
    }
}
