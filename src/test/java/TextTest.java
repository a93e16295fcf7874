/** Promises 2 type, 3 clear, 4 realm, and of 24 count what the text tells. */
final class TextTest {
    private static final Check CHECK = new Check("TextTest");
    private static final String K = "k9 0 0 9;";

    public static void main(String[] args) {
        letters();
        items();
        faultsOfNumbers();
        faultsOfForm();
        faultsOfWords();
        tooMany();
        theLaterHolds();
        toldAnew();
        toldOverAndOver();
        CHECK.end();
    }

    private static void letters() {
        PocketLaws x = new PocketLaws();
        CHECK.due("clear of nothing", x.clear(), 0);
        CHECK.due("type(0)", x.type(0), 1);
        CHECK.due("type(255)", x.type(255), 2);
        CHECK.due("type(256)", x.type(256), PocketLaws.BAD);
        CHECK.due("type(-1)", x.type(-1), PocketLaws.BAD);
        CHECK.due("type(max)", x.type(Integer.MAX_VALUE), PocketLaws.BAD);
        CHECK.due("type(min)", x.type(Integer.MIN_VALUE), PocketLaws.BAD);
        CHECK.due("count(3)", x.count(3), 2);
        CHECK.due("clear", x.clear(), 2);
        CHECK.due("clear again", x.clear(), 0);
        for (int i = 1; i <= 200; i++) {
            CHECK.due("type " + i, x.type(' '), i);
        }
        CHECK.due("the 201st", x.type(' '), PocketLaws.FULL);
        CHECK.due("BAD ahead of FULL", x.type(256), PocketLaws.BAD);
        CHECK.due("count(3)", x.count(3), 200);
        CHECK.due("blanks alone are no items", x.realm(), 0);
        CHECK.due("count(3)", x.count(3), 0);
    }

    private static void items() {
        reads("", 0);
        reads("    ", 0);
        reads(K, 1);
        reads("  k  9  0 0   9  ;  ", 1);
        reads("k9 0 0 9;k 20 63 9 0;k1 0 0 1;", 3);
        reads(K + K + "a0 1;n1 0;s0 1;h1 0 5;y1 0 5;t5 5 9 1;", 8);
        reads(K + "t0 1 0 0;t0 1 0 0;", 3);
    }

    private static void faultsOfNumbers() {
        faults("k0 0 0 9;", 1);
        faults("k21 0 0 9;", 1);
        faults("k1 64 0 9;", 3);
        faults("k1 0 10 9;", 5);
        faults("k1 0 0 10;", 7);
        faults("k1 0 0 8;", 7);
        faults("k1 0 0 0;", 7);
        faults(K + "k1 0 0 1;", 16);
        faults("k100 0 0 9;", 1);
        faults("k4294967297 0 0 9;", 1);
        faults("k01 0 0 9;", 1);
        faults("k1 00 0 9;", 3);
        faults(K + K + "h0 1 0;", 23);
        faults(K + K + "h0 1 6;", 23);
        faults(K + K + "y0 1 6;", 23);
        faults(K + "t6 1 0 0;", 10);
        faults(K + "t0 0 0 0;", 12);
        faults(K + "t0 6 0 0;", 12);
        faults(K + "t0 1 10 0;", 14);
        faults(K + "t0 1 0 1;", 16);
        faults(K + "t0 1 0 9;", 16);
    }

    private static void faultsOfForm() {
        faults(";", 0);
        faults("1", 0);
        faults("   x", 3);
        faults("\t" + K, 0);
        faults("K9 0 0 9;", 0);
        faults(K + ";", 9);
        faults("kk", 1);
        faults("k9 0 0;", 6);
        faults("k9 0 0 9 9;", 9);
        faults("k9 0 0 9k", 8);
        faults("k9 0 0 9", 8);
        faults("k9 0 0 9   ", 11);
        faults("k", 1);
        faults("k9 0", 4);
        faults("k9,0 0 9;", 2);
        faults("k9 0 0 9;\0", 9);
        faults(K + (char) 255, 9);
        faults("k9 0 0 9; k99 1000", 11);
    }

    private static void faultsOfWords() {
        faults("s0 1;", 1);
        faults("t0 1 0 0;", 7);
        faults(K + "s0 1;" + K, 12);
        faults(K + "s1 0;" + K, 10);
        for (char letter : "ansh".toCharArray()) {
            faults(K + letter + "0 0", 12);
            faults(K + letter + "0 1", 12);
            faults(K + letter + "1 0", 10);
        }
        faults(K + "y0 0 0;", 12);
        faults(K + K + "a2 0;", 19);
        faults(K + K + "a0 1 0;", 23);
    }

    private static void tooMany() {
        String six = K.repeat(6);
        reads(six, 6);
        faults(six + K, 54);
        faults(six + " k", 55);
        String things = K + "t0 1 0 0;".repeat(6);
        reads(things, 7);
        faults(things + "t", 63);
        String treaties = K + K + "y0 1 0;".repeat(12);
        PocketLaws x = reads(treaties, 14);
        CHECK.due("treaties told", x.count(2), 12);
        faults(treaties + "y", 102);
    }

    private static void theLaterHolds() {
        PocketLaws x = reads("k9 1 0 9;k9 0 0 9;a0 1;n0 1;h0 1 1;h0 1 5;t0 3 0 0;", 7);
        CHECK.due("the later law", x.letsIn(0, 0), 0);
        CHECK.due("the later hole", x.drops(0, 1), 1);
        x = reads("k9 1 0 9;k9 0 0 9;n0 1;a0 1;h0 1 5;h0 1 1;t0 3 0 0;", 7);
        CHECK.due("the later law", x.letsIn(0, 0), 1);
        CHECK.due("the later hole", x.drops(0, 1), 0);
        x = reads(K + K + "s0 1;s1 0;s0 1;", 5);
        CHECK.due("a seam told again", x.pocket(0, 6), 2);
    }

    private static void toldAnew() {
        PocketLaws x = reads("k9 1 2 9;k8 0 3 0;n1 0;s0 1;h1 0 5;y0 1 2;t0 2 3 1;", 7);
        x.night();
        x.moves(0, 1);
        x.keep(0);
        x.rate(1, 0);
        Check.type(x, K + "k1 0");
        CHECK.due("refused", x.realm(), -10 - 13);
        CHECK.due("the text stays", x.count(3), 13);
        CHECK.due("days stay", x.now(0), 1);
        CHECK.due("pockets stay", x.count(0), 2);
        CHECK.due("undo stays", x.now(4) > 0 ? 1 : 0, 1);
        CHECK.due("image stays", x.back(0), 1);
        x.night();
        CHECK.due("clear", x.clear(), 13);
        Check.type(x, K + K + "t0 1 0 0;");
        CHECK.due("told anew", x.realm(), 3);
        CHECK.due("days", x.now(0), 0);
        CHECK.due("paid", x.now(1), 0);
        CHECK.due("none to be undone", x.undo(), PocketLaws.STATE);
        CHECK.due("images are gone", x.back(0), PocketLaws.STATE);
        CHECK.due("the trace goes on", x.trace(), 11);
        CHECK.due("no seams", x.pocket(0, 6), 0);
        CHECK.due("no holes", x.pocket(1, 7), PocketLaws.NONE);
        CHECK.due("no treaties", x.count(2), 0);
        CHECK.due("things", x.count(1), 1);
        CHECK.due("its own law", x.letsIn(1, 0), 1);
        CHECK.due("an empty text", x.realm(), 0);
        CHECK.due("no pockets", x.count(0), 0);
        CHECK.due("no things", x.count(1), 0);
    }

    private static void toldOverAndOver() {
        PocketLaws x = new PocketLaws();
        for (int i = 0; i < 4; i++) {
            Check.type(x, K + "k9 0 7 0;n1 0;s0 1;h0 1 5;y0 1 2;y0 1 2;y0 1 2;y0 1 2;t2 1 1 0;");
            CHECK.due("told", x.realm(), 10);
            CHECK.due("treaties told", x.count(2), 4);
            CHECK.due("things", x.count(1), 1);
            Check.type(x, "k9 0 3 9;k9 0 7 9;s0 1;t2 1 1 0;");
            CHECK.due("told", x.realm(), 4);
            CHECK.due("no treaties told", x.count(2), 0);
            CHECK.due("no treaty", x.way(0, 1, 1), 7);
            CHECK.due("no treaty", x.moves(0, 1), 7);
            CHECK.due("no treaty", x.moves(0, 0), 3);
            CHECK.due("no hole", x.drops(0, 1), 0);
            CHECK.due("no law but its own", x.fixed(2), 1);
            CHECK.due("no law but its own", x.letsIn(1, 2), 1);
            CHECK.due("no outer", x.pocket(1, 3), 9);
            Check.type(x, K + K + "s0 1;y1 0 2;y");
            CHECK.due("refused", x.realm(), -10 - 31);
            x.clear();
        }
    }

    private static PocketLaws reads(String text, int items) {
        return CHECK.reads(text, items);
    }

    private static void faults(String text, int place) {
        CHECK.faults(text, place);
    }
}
