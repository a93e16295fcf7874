/** What is done, promises 10 to 12: for each sentence that names a boundary, a test of its own. */
final class EdgesOfDeedsTest {
    private static final Check CHECK = new Check("EdgesOfDeedsTest");
    private static final String K = "k9 0 0 9;";
    private static final int[] NEVER = {-1, Integer.MIN_VALUE, Integer.MAX_VALUE};

    public static void main(String[] args) {
        overASeam();
        ifThatLetsItIn();
        notAboveSize();
        taxOfThat();
        unlessATreaty();
        thingByThing();
        ifItsBulkGoesThrough();
        ifThereIsRoomBelow();
        lawsAreNotAsked();
        days();
        theLatestIsUndone();
        refusedOnesAreNot();
        tenAreKnown();
        promiseMoves();
        promiseNight();
        promiseUndo();
        CHECK.end();
    }

    private static void overASeam() {
        CHECK.sentence("MOVED: a THING over a SEAM of its POCKET to the other one");
        for (int a = 0; a < 4; a++) {
            for (int b = 0; b < 4; b++) {
                PocketLaws x = CHECK.told("k9 0 1 9;k9 0 2 9;k9 0 3 9;k9 0 4 9;s1 3;s3 0;t0 1 0 " + a + ";");
                boolean seam = a + b == 4 && a != b || a + b == 3 && a * b == 0;
                CHECK.due("from " + a + " to " + b, x.moves(0, b), seam ? b + 1 : PocketLaws.STATE);
                CHECK.due("where", x.thing(0, 3), seam ? b : a);
            }
        }
        PocketLaws x = CHECK.told("k9 0 0 9;k9 0 0 0;h0 1 5;y0 1 0;t0 1 0 0;");
        CHECK.due("not through a hole, nor within", x.moves(0, 1), PocketLaws.STATE);
        x = CHECK.told(K + K + "s0 1;t0 1 0 0;");
        CHECK.due("not to where it is", x.moves(0, 0), PocketLaws.STATE);
    }

    private static void ifThatLetsItIn() {
        CHECK.sentence("if that LETS it IN");
        PocketLaws x = CHECK.told("k9 1 0 9;k9 2 0 9;k9 0 0 0;s0 1;s1 2;t0 1 0 0;t1 1 0 0;t0 1 0 1;");
        CHECK.due("it forbids", x.moves(1, 1), PocketLaws.STATE);
        CHECK.due("from where it is outlawed", x.moves(0, 1), 0);
        CHECK.due("not back", x.moves(0, 0), PocketLaws.STATE);
        CHECK.due("its outer forbids", x.moves(2, 2), PocketLaws.STATE);
        x = CHECK.told("k9 2 0 9;k9 0 0 9;s0 1;y0 1 1;t1 1 0 1;");
        CHECK.due("a treaty does not let in", x.moves(0, 0), PocketLaws.STATE);
    }

    private static void notAboveSize() {
        CHECK.sentence("and is not FILLED above SIZE by it");
        for (int size = 1; size <= 20; size++) {
            for (int bulk = 1; bulk <= 5; bulk++) {
                PocketLaws x = CHECK.told("k9 0 0 9;k" + size + " 0 0 9;s0 1;" + "t0 5 0 1;".repeat(size / 5) + "t0 " + bulk + " 0 0;");
                int last = size / 5;
                int want = 5 * (size / 5) + bulk <= size ? 0 : PocketLaws.STATE;
                CHECK.due("bulk " + bulk + " to size " + size, x.moves(last, 1), want);
            }
        }
        PocketLaws x = CHECK.told("k9 0 0 9;k1 0 0 9;s0 1;t0 1 0 0;t0 5 0 1;");
        CHECK.due("filled above size already", x.moves(0, 1), PocketLaws.STATE);
        CHECK.due("where it comes from does not matter", x.moves(1, 0), 0);
        CHECK.due("empty now", x.moves(0, 1), 0);
    }

    private static void taxOfThat() {
        CHECK.sentence("TAX of that is paid");
        for (int tax = 0; tax <= 9; tax++) {
            PocketLaws x = CHECK.told("k9 0 " + (9 - tax) + " 9;k9 0 " + tax + " 9;s0 1;t0 1 0 0;");
            CHECK.due("there", x.moves(0, 1), tax);
            CHECK.due("paid", x.now(1), tax);
            CHECK.due("back", x.moves(0, 0), 9 - tax);
            CHECK.due("paid in all", x.now(1), 9);
        }
        PocketLaws x = CHECK.told("k9 0 9 9;k9 0 9 9;s0 1;t0 1 0 0;");
        for (int i = 1; i <= 200; i++) {
            CHECK.due("moves", x.moves(0, i % 2), 9);
        }
        CHECK.due("paid in all", x.now(1), 1800);
    }

    private static void unlessATreaty() {
        CHECK.sentence("unless there is a TREATY of the two for that SORT");
        PocketLaws x = CHECK.told("k9 0 4 9;k9 0 5 9;k9 0 6 9;s0 1;s1 2;s2 0;y2 0 5;y0 1 4;t5 1 0 0;t4 1 0 0;");
        CHECK.due("of the two", x.moves(0, 2), 0);
        CHECK.due("not of these two", x.moves(0, 1), 5);
        CHECK.due("of these for another sort", x.moves(0, 0), 4);
        CHECK.due("of the two", x.moves(1, 1), 0);
        CHECK.due("not of these two", x.moves(1, 2), 6);
        CHECK.due("of these for another sort", x.moves(1, 0), 4);
        CHECK.due("paid", x.now(1), 19);
    }

    private static void thingByThing() {
        CHECK.sentence("THING by THING, by numbers");
        PocketLaws x = CHECK.told("k9 0 0 9;k5 0 0 9;k5 0 0 9;h0 1 5;h1 2 5;t0 5 0 1;t0 5 0 0;");
        CHECK.due("the lesser one makes room", x.night(), 2);
        x = CHECK.told("k9 0 0 9;k5 0 0 9;k5 0 0 9;h0 1 5;h1 2 5;t0 5 0 0;t0 5 0 1;");
        CHECK.due("the greater one makes room too late", x.night(), 1);
        CHECK.due("it waits", x.thing(0, 3), 0);
        CHECK.due("a night later", x.night(), 1);
        CHECK.due("it dropped", x.thing(0, 3), 1);
        x = CHECK.told("k9 0 0 9;k3 0 0 9;h0 1 5;t0 2 0 0;t0 2 0 0;t0 1 0 0;");
        CHECK.due("the lesser one takes the room", x.night(), 2);
        CHECK.due("first", x.thing(0, 3), 1);
        CHECK.due("no room", x.thing(1, 3), 0);
        CHECK.due("goes in", x.thing(2, 3), 1);
        x = CHECK.told(K.repeat(6) + "h0 1 5;h1 2 5;h2 3 5;h3 4 5;h4 5 5;h5 0 5;t0 1 0 0;t0 1 0 1;t0 1 0 5;");
        CHECK.due("through one hole each", x.night(), 3);
        CHECK.due("once", x.thing(0, 3), 1);
        CHECK.due("once", x.thing(1, 3), 2);
        CHECK.due("round", x.thing(2, 3), 0);
    }

    private static void ifItsBulkGoesThrough() {
        CHECK.sentence("if its BULK goes through");
        for (int most = 1; most <= 5; most++) {
            for (int bulk = 1; bulk <= 5; bulk++) {
                PocketLaws x = CHECK.told("k1 0 0 9;k9 0 0 9;h0 1 " + most + ";t0 " + bulk + " 0 0;");
                CHECK.due("bulk " + bulk + " through " + most, x.night(), bulk <= most ? 1 : 0);
                CHECK.due("where", x.thing(0, 3), bulk <= most ? 1 : 0);
            }
        }
        CHECK.due("no hole", CHECK.told(K + K + "s0 1;h1 0 5;t0 1 0 0;").night(), 0);
    }

    private static void ifThereIsRoomBelow() {
        CHECK.sentence("and the other one is not FILLED above SIZE by it");
        for (int size = 1; size <= 12; size++) {
            for (int bulk = 1; bulk <= 5; bulk++) {
                PocketLaws x = CHECK.told("k9 0 0 9;k" + size + " 0 0 9;h0 1 5;t0 " + bulk + " 0 0;t0 4 0 1;");
                CHECK.due("bulk " + bulk + " to size " + size, x.night(), bulk + 4 <= size ? 1 : 0);
            }
        }
    }

    private static void lawsAreNotAsked() {
        CHECK.sentence("(LAWS are not asked, nothing is paid)");
        PocketLaws x = CHECK.told("k9 63 9 9;k9 63 9 9;a0 1;n1 0;h0 1 5;s0 1;t0 1 0 0;");
        CHECK.due("it drops", x.night(), 1);
        CHECK.due("where", x.thing(0, 3), 1);
        CHECK.due("paid", x.now(1), 0);
    }

    private static void days() {
        CHECK.sentence("DAYS are counted (999 at most)");
        // Past the 512th call nothing is promised, and no shorter run comes to that day.
        PocketLaws x = CHECK.told("k9 0 0 9;k9 0 0 9;h0 1 5;h1 0 5;t0 1 0 0;");
        for (int i = 1; i <= 999; i++) {
            CHECK.due("night " + i, x.night(), 1);
        }
        String before = Seen.of(x);
        CHECK.due("day 999", x.now(0), 999);
        CHECK.due("night", x.night(), PocketLaws.STATE);
        CHECK.holds("nothing changes", Seen.of(x).equals(before));
        CHECK.due("undo", x.undo(), 9);
        CHECK.due("night again", x.night(), 1);
        CHECK.due("day 999", x.now(0), 999);
    }

    private static void theLatestIsUndone() {
        CHECK.sentence("UNDONE: the latest moves(), night()");
        PocketLaws x = CHECK.told("k9 0 2 9;k9 0 3 9;k9 0 4 9;s0 1;s1 2;h0 2 5;h1 0 5;t0 1 0 0;t0 2 0 1;");
        String[] seen = new String[2];
        seen[0] = Seen.of(x);
        CHECK.due("moves", x.moves(0, 1), 3);
        seen[1] = Seen.of(x);
        CHECK.due("night", x.night(), 2);
        for (int i = 1; i >= 0; i--) {
            CHECK.due("undo", x.undo(), i);
            CHECK.holds("as it was behind " + i, Seen.of(x).equals(seen[i]));
        }
        CHECK.due("none", x.undo(), PocketLaws.STATE);
        CHECK.due("what is undone can be done again", x.moves(0, 1), 3);
        CHECK.due("and undone again", x.undo(), 0);
        x = CHECK.told(K);
        CHECK.due("a night in which nothing drops", x.night(), 0);
        CHECK.due("is known too", x.now(4), 1);
        CHECK.due("and undone", x.undo(), 0);
        CHECK.due("days", x.now(0), 0);
    }

    private static void refusedOnesAreNot() {
        CHECK.sentence("that was not refused");
        PocketLaws x = CHECK.told("k9 0 2 9;k9 0 3 9;k9 0 4 9;s0 1;t0 1 0 0;");
        x.moves(0, 1);
        CHECK.due("STATE", x.moves(0, 2), PocketLaws.STATE);
        CHECK.due("BAD", x.moves(1, 0), PocketLaws.BAD);
        CHECK.due("BAD", x.moves(0, 3), PocketLaws.BAD);
        CHECK.due("known", x.now(4), 1);
        CHECK.due("undo", x.undo(), 0);
        CHECK.due("where", x.thing(0, 3), 0);
        CHECK.due("paid", x.now(1), 0);
    }

    private static void tenAreKnown() {
        CHECK.sentence("(10 are known, older ones are lost)");
        for (int done = 0; done <= 24; done++) {
            PocketLaws x = CHECK.told("k9 0 2 9;k9 0 3 9;s0 1;t0 1 0 0;");
            for (int i = 1; i <= done; i++) {
                x.moves(0, i % 2);
                CHECK.due("known", x.now(4), Math.min(10, i));
            }
            int known = Math.min(10, done);
            for (int left = known - 1; left >= 0; left--) {
                CHECK.due("undo of " + done, x.undo(), left);
                CHECK.due("where", x.thing(0, 3), (done - known + left) % 2);
            }
            int lost = done - known;
            CHECK.due("older ones are lost", x.undo(), PocketLaws.STATE);
            CHECK.due("paid", x.now(1), 3 * ((lost + 1) / 2) + 2 * (lost / 2));
            CHECK.due("known", x.now(4), 0);
        }
        PocketLaws x = CHECK.told(K);
        for (int round = 0; round < 7; round++) {
            for (int i = 0; i < 13; i++) {
                x.night();
            }
            for (int i = 0; i < 6; i++) {
                CHECK.due("undo", x.undo(), 9 - i);
            }
            CHECK.due("days", x.now(0), 7 * (round + 1));
        }
    }

    private static void promiseMoves() {
        CHECK.sentence("MOVED: what is paid. BAD; STATE: it cannot be.");
        PocketLaws x = CHECK.told(K + "k1 63 0 9;t0 5 0 0;");
        String before = Seen.of(x);
        CHECK.due("no such thing, though nothing can be moved", x.moves(1, 1), PocketLaws.BAD);
        CHECK.due("no such pocket, though nothing can be moved", x.moves(0, 2), PocketLaws.BAD);
        for (int no : NEVER) {
            CHECK.due("moves(" + no + ", 0)", x.moves(no, 0), PocketLaws.BAD);
            CHECK.due("moves(0, " + no + ")", x.moves(0, no), PocketLaws.BAD);
        }
        CHECK.due("it cannot be", x.moves(0, 1), PocketLaws.STATE);
        CHECK.holds("nothing changes", Seen.of(x).equals(before));
        CHECK.due("pockets, no things", CHECK.told(K + K + "s0 1;").moves(0, 1), PocketLaws.BAD);
    }

    private static void promiseNight() {
        CHECK.sentence("A NIGHT: how many dropped.");
        CHECK.due("no pockets", new PocketLaws().night(), 0);
        CHECK.due("no things", CHECK.told(K + K + "h0 1 5;").night(), 0);
        CHECK.due("all six", CHECK.told("k20 0 0 9;k20 0 0 9;h0 1 5;" + "t0 1 0 0;".repeat(6)).night(), 6);
    }

    private static void promiseUndo() {
        CHECK.sentence("UNDONE: how many more may be. STATE: none.");
        PocketLaws x = CHECK.told(K);
        String before = Seen.of(x);
        CHECK.due("none", x.undo(), PocketLaws.STATE);
        CHECK.due("none", x.undo(), PocketLaws.STATE);
        CHECK.holds("nothing changes", Seen.of(x).equals(before));
        x.night();
        x.night();
        CHECK.due("one more", x.undo(), 1);
        CHECK.due("no more", x.undo(), 0);
        CHECK.due("none", x.undo(), PocketLaws.STATE);
    }
}
