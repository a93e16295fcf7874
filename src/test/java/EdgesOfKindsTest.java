/** The document's fourth part, what is refused, promises 21 to 25: for each sentence that names a boundary, a test of its own. */
final class EdgesOfKindsTest {
    private static final Check CHECK = new Check("EdgesOfKindsTest");
    private static final String K = "k9 0 0 9;";
    private static final String DEEP = "k20 0 9 9;k1 0 1 0;k2 0 2 1;k3 0 3 2;k4 0 4 3;k5 0 5 4;t0 5 0 5;t0 4 0 5;t0 3 0 0;";
    private static final int[] ADDED = {1, 11, 101, 1011, 10101, 100001};
    private static final int[] NEVER = {-1, Integer.MIN_VALUE, Integer.MAX_VALUE};

    public static void main(String[] args) {
        kindsOverOneAnother();
        belowZero();
        eachOnce();
        imagesKeepNow();
        nothingElse();
        nothingUndoneBehindBack();
        readAnew();
        traceGoesOn();
        refusedInOrder();
        refusedChangesNothing();
        promiseRate();
        promiseKeep();
        promiseBack();
        promiseTrace();
        constants();
        CHECK.end();
    }

    private static void kindsOverOneAnother() {
        CHECK.sentence("RATE of a POCKET as if of a KIND");
        PocketLaws x = CHECK.told(DEEP);
        int[] size = {20, 1, 2, 3, 4, 5};
        int[] tax = {9, 1, 2, 3, 4, 5};
        int[] filled = {3, 0, 0, 0, 0, 9};
        for (int k = 0; k < 6; k++) {
            CHECK.due("POCKET " + k, x.rate(0, k), filled[k]);
            CHECK.due("COAT " + k, x.rate(1, k), filled[k] + size[k]);
            CHECK.due("PURSE " + k, x.rate(2, k), filled[k] - tax[k]);
            CHECK.due("LEAGUE " + k, x.rate(3, k), 2 * (filled[k] + size[k]));
            CHECK.due("BEGGAR " + k, x.rate(4, k), filled[k] - tax[k] + k);
            CHECK.due("LINING " + k, x.rate(5, k), filled[k] + k);
        }
    }

    private static void belowZero() {
        CHECK.sentence("What none is, where a number may be below 0.");
        PocketLaws x = CHECK.told("k1 0 9 9;k1 0 1 9;k1 0 9 9;");
        CHECK.due("PURSE, as low as can be", x.rate(2, 0), -9);
        CHECK.due("PURSE, as BAD would be", x.rate(2, 1), -1);
        CHECK.due("BEGGAR", x.rate(4, 0), -9);
        CHECK.due("BEGGAR", x.rate(4, 2), -7);
        CHECK.due("none", x.rate(2, 3), -1000000);
    }

    private static void eachOnce() {
        CHECK.sentence("(numbers in brackets are added to THE TRACE, 0 at first, as often as rate() asks that body: each once");
        for (int kind = 0; kind < 6; kind++) {
            PocketLaws x = CHECK.told(DEEP);
            CHECK.due("at first", x.trace(), 0);
            for (int k = 0; k < 6; k++) {
                x.rate(kind, k);
                CHECK.due("trace of kind " + kind, x.trace(), (k + 1L) * ADDED[kind]);
            }
        }
        PocketLaws x = CHECK.told(K);
        x.pocket(0, 4);
        x.pocket(0, 5);
        x.night();
        CHECK.due("only rate() asks", x.trace(), 0);
    }

    private static void imagesKeepNow() {
        CHECK.sentence("IMAGES 0, 1 keep NOW (where THINGS are, what was PAID, DAYS)");
        PocketLaws x = CHECK.told("k20 0 3 9;k20 0 4 9;s0 1;h1 0 1;t0 1 0 0;t0 1 0 1;t0 2 0 1;t0 1 0 0;t0 1 0 0;t0 1 0 0;");
        String begun = Seen.of(x);
        CHECK.due("keep", x.keep(0), 0);
        CHECK.due("moves", x.moves(5, 1), 4);
        CHECK.due("moves", x.moves(2, 0), 3);
        CHECK.due("night", x.night(), 2);
        CHECK.due("moves", x.moves(4, 1), 4);
        CHECK.due("keep", x.keep(1), 1);
        CHECK.due("keep takes nothing", x.now(4), 4);
        CHECK.due("back", x.back(0), 0);
        CHECK.holds("as it was", Seen.of(x).equals(begun));
        CHECK.due("back", x.back(1), 1);
        CHECK.due("paid", x.now(1), 11);
        CHECK.due("thing 1", x.thing(1, 3), 0);
        CHECK.due("thing 4", x.thing(4, 3), 1);
        CHECK.due("thing 5", x.thing(5, 3), 0);
        x.night();
        CHECK.due("back again", x.back(1), 1);
        CHECK.due("thing 4", x.thing(4, 3), 1);
        x.night();
        CHECK.due("kept anew", x.keep(1), 2);
        CHECK.due("the other one", x.back(0), 0);
        CHECK.due("what was kept anew", x.back(1), 2);
        CHECK.due("thing 4", x.thing(4, 3), 0);
    }

    private static void nothingElse() {
        CHECK.sentence("nothing else (nothing can be UNDONE behind back())");
        PocketLaws x = CHECK.told(K);
        x.keep(0);
        x.rate(0, 0);
        Check.type(x, "k9");
        CHECK.due("back", x.back(0), 0);
        CHECK.due("not the text", x.count(3), 2);
        CHECK.due("not the trace", x.trace(), 1);
    }

    private static void nothingUndoneBehindBack() {
        CHECK.sentence("(nothing can be UNDONE behind back())");
        PocketLaws x = CHECK.told(K);
        x.night();
        x.keep(0);
        x.night();
        CHECK.due("known", x.now(4), 2);
        CHECK.due("refused, so nothing is lost", x.back(1), PocketLaws.STATE);
        CHECK.due("refused, so nothing is lost", x.back(2), PocketLaws.BAD);
        CHECK.due("known", x.now(4), 2);
        CHECK.due("back", x.back(0), 1);
        CHECK.due("known", x.now(4), 0);
        CHECK.due("undo", x.undo(), PocketLaws.STATE);
        for (int i = 1; i <= 12; i++) {
            x.night();
            CHECK.due("known again", x.now(4), Math.min(10, i));
        }
        for (int i = 9; i >= 0; i--) {
            CHECK.due("undo", x.undo(), i);
        }
        CHECK.due("days", x.now(0), 3);
        CHECK.due("images are not undone", x.back(0), 1);
    }

    private static void readAnew() {
        CHECK.sentence("(Read anew: as told (what is not told as at first), IMAGES are gone, nothing can be UNDONE");
        String text = "k9 0 3 9;k9 0 4 9;s0 1;t0 1 0 0;";
        PocketLaws x = CHECK.told(text);
        String begun = Seen.of(x);
        x.keep(0);
        x.keep(1);
        x.moves(0, 1);
        x.night();
        Check.type(x, text);
        CHECK.due("the same text", x.realm(), 4);
        CHECK.holds("as told", Seen.of(x).equals(begun));
        CHECK.due("days", x.now(0), 0);
        CHECK.due("paid", x.now(1), 0);
        CHECK.due("where", x.thing(0, 3), 0);
        CHECK.due("image 0", x.back(0), PocketLaws.STATE);
        CHECK.due("image 1", x.back(1), PocketLaws.STATE);
        CHECK.due("undo", x.undo(), PocketLaws.STATE);
        CHECK.due("moves", x.moves(0, 1), 4);
        CHECK.due("undo", x.undo(), 0);
        x.night();
        x.keep(0);
        CHECK.due("an empty text", x.realm(), 0);
        CHECK.due("image 0", x.back(0), PocketLaws.STATE);
        CHECK.holds("as at first", Seen.of(x).equals(Seen.of(new PocketLaws())));
    }

    private static void traceGoesOn() {
        CHECK.sentence("THE TRACE goes on, as behind undo(), back().)");
        PocketLaws x = CHECK.told(K);
        x.keep(0);
        x.night();
        x.rate(5, 0);
        x.undo();
        CHECK.due("behind undo", x.trace(), 100001);
        x.night();
        x.rate(4, 0);
        x.back(0);
        CHECK.due("behind back", x.trace(), 110102);
        Check.type(x, K);
        x.realm();
        CHECK.due("behind realm", x.trace(), 110102);
        x.rate(3, 0);
        CHECK.due("and on", x.trace(), 111113);
        x.type('?');
        x.realm();
        CHECK.due("behind a text that is refused", x.trace(), 111113);
    }

    private static void refusedInOrder() {
        CHECK.sentence("the first of these: BAD (a number is not as told, or there is no such thing), STATE (as told), FULL");
        PocketLaws x = CHECK.told(K + K + "t0 1 0 0;");
        CHECK.due("moves: BAD ahead of STATE", x.moves(0, 2), PocketLaws.BAD);
        CHECK.due("moves: BAD ahead of STATE", x.moves(1, 1), PocketLaws.BAD);
        CHECK.due("moves: STATE", x.moves(0, 1), PocketLaws.STATE);
        CHECK.due("back: BAD ahead of STATE", x.back(2), PocketLaws.BAD);
        CHECK.due("back: BAD ahead of STATE", x.back(-1), PocketLaws.BAD);
        CHECK.due("back: STATE", x.back(1), PocketLaws.STATE);
        Check.type(x, " ".repeat(200));
        CHECK.due("type: BAD ahead of FULL", x.type(256), PocketLaws.BAD);
        CHECK.due("type: BAD ahead of FULL", x.type(-1), PocketLaws.BAD);
        CHECK.due("type: FULL", x.type(32), PocketLaws.FULL);
    }

    private static void refusedChangesNothing() {
        CHECK.sentence("Refused, and nothing changes");
        PocketLaws x = CHECK.told(K + "k5 0 2 9;" + K + "s0 1;t0 5 0 0;t0 3 0 0;");
        x.moves(0, 1);
        x.keep(1);
        x.rate(0, 0);
        x.type('?');
        String before = Seen.of(x);
        x.type(256);
        x.realm();
        x.moves(1, 1);
        x.moves(2, 0);
        x.moves(0, 3);
        x.rate(6, 0);
        x.rate(0, 3);
        x.keep(2);
        x.keep(-1);
        x.back(0);
        x.back(2);
        x.stow(2);
        x.odds(0, 0, 11, 0, 0);
        CHECK.holds("nothing changes", Seen.of(x).equals(before));
        CHECK.due("no image came", x.back(0), PocketLaws.STATE);
        CHECK.due("what was done is known", x.undo(), 0);
        CHECK.due("the image stays", x.back(1), 0);
        CHECK.due("paid", x.now(1), 2);
    }

    private static void promiseRate() {
        CHECK.sentence("RATE. NO: BAD.");
        PocketLaws x = CHECK.told(K + K);
        CHECK.due("rate(5, 1)", x.rate(5, 1), 0);
        long trace = x.trace();
        CHECK.due("rate(6, 0)", x.rate(6, 0), PocketLaws.NO);
        CHECK.due("rate(6, 2)", x.rate(6, 2), PocketLaws.NO);
        for (int kind = 0; kind < 6; kind++) {
            CHECK.due("rate(" + kind + ", 2)", x.rate(kind, 2), PocketLaws.NO);
            CHECK.due("no pockets", new PocketLaws().rate(kind, 0), PocketLaws.NO);
        }
        for (int no : NEVER) {
            CHECK.due("rate(" + no + ", 0)", x.rate(no, 0), PocketLaws.NO);
            CHECK.due("rate(0, " + no + ")", x.rate(0, no), PocketLaws.NO);
        }
        CHECK.due("refused, no body is asked", x.trace(), trace);
    }

    private static void promiseKeep() {
        CHECK.sentence("An IMAGE is kept: DAYS. BAD.");
        PocketLaws x = CHECK.told(K);
        CHECK.due("keep(0)", x.keep(0), 0);
        x.night();
        x.night();
        CHECK.due("keep(1)", x.keep(1), 2);
        CHECK.due("keep(2)", x.keep(2), PocketLaws.BAD);
        for (int no : NEVER) {
            CHECK.due("keep(" + no + ")", x.keep(no), PocketLaws.BAD);
        }
        CHECK.due("no pockets", new PocketLaws().keep(1), 0);
    }

    private static void promiseBack() {
        CHECK.sentence("All of that becomes as an IMAGE has it: DAYS. BAD; STATE: none was kept.");
        PocketLaws x = CHECK.told(K);
        CHECK.due("none was kept", x.back(0), PocketLaws.STATE);
        CHECK.due("none was kept", x.back(1), PocketLaws.STATE);
        x.night();
        x.keep(1);
        x.night();
        CHECK.due("none was kept", x.back(0), PocketLaws.STATE);
        CHECK.due("days", x.now(0), 2);
        CHECK.due("back(1)", x.back(1), 1);
        CHECK.due("days", x.now(0), 1);
        CHECK.due("once more", x.back(1), 1);
        CHECK.due("back(2)", x.back(2), PocketLaws.BAD);
        for (int no : NEVER) {
            CHECK.due("back(" + no + ")", x.back(no), PocketLaws.BAD);
        }
    }

    private static void promiseTrace() {
        CHECK.sentence("THE TRACE.");
        PocketLaws x = CHECK.told(K);
        CHECK.due("at first", x.trace(), 0);
        for (int i = 1; i <= 480; i++) {
            x.rate(5, 0);
        }
        CHECK.due("as many as one run can ask", x.trace(), 48000480L);
        CHECK.due("of another object", new PocketLaws().trace(), 0);
    }

    private static void constants() {
        CHECK.sentence("The constants");
        CHECK.due("BAD", PocketLaws.BAD, -1);
        CHECK.due("STATE", PocketLaws.STATE, -2);
        CHECK.due("FULL", PocketLaws.FULL, -3);
        CHECK.due("NONE", PocketLaws.NONE, -9);
        CHECK.due("NO", PocketLaws.NO, -1000000);
    }
}
