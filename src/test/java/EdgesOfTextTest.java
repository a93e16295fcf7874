import java.util.function.ToIntFunction;

/** The document's first part and promises 2 to 4: for each sentence that names a boundary, a test of its own. */
final class EdgesOfTextTest {
    private static final Check CHECK = new Check("EdgesOfTextTest");
    private static final String K = "k9 0 0 9;";
    private static final String TWO = K + K;
    private static final String EVERY_ITEM = "k9 2 3 9;k5 0 1 0;a0 1;n1 0;s0 1;h1 0 5;y0 1 2;t5 5 9 1;";

    public static void main(String[] args) {
        sixPockets();
        numbersOfPockets();
        outerIsToldAhead();
        lawsAtFirst();
        seamsBetweenTwo();
        holes();
        treaties();
        things();
        twoHundredLetters();
        blanks();
        items();
        unlike();
        theLaterOneHolds();
        toldAgain();
        whatIsNotThere();
        tooManyTold();
        otherLetters();
        longNumbers();
        zerosAhead();
        endsTooEarly();
        theFirstFault();
        promiseType();
        promiseClear();
        promiseRealm();
        toldOverAndOver();
        refusedRealm();
        CHECK.end();
    }

    /** Each number from 0 to 99 between two parts of a text: from least to most it is read, else it is at fault. */
    private static void numbers(String ahead, String behind, int least, int most, ToIntFunction<PocketLaws> answer) {
        int items = (int) (ahead + behind).chars().filter(c -> c == ';').count();
        for (int n = 0; n < 100; n++) {
            String text = ahead + n + behind;
            if (n >= least && n <= most) {
                CHECK.due("told by '" + text + "'", answer.applyAsInt(CHECK.reads(text, items)), n);
            } else {
                CHECK.faults(text, ahead.length());
            }
        }
    }

    private static void sixPockets() {
        CHECK.sentence("(6 at most): SIZE (1 .. 20)");
        for (int n = 0; n <= 6; n++) {
            PocketLaws x = CHECK.reads(K.repeat(n), n);
            CHECK.due("pockets", x.count(0), n);
            CHECK.due("the last", x.pocket(n - 1, 0), n == 0 ? PocketLaws.BAD : 9);
            CHECK.due("no more", x.pocket(n, 0), PocketLaws.BAD);
        }
        CHECK.faults(K.repeat(7), 54);
    }

    private static void numbersOfPockets() {
        CHECK.sentence("SIZE (1 .. 20)");
        numbers("k", " 0 0 9;", 1, 20, x -> x.pocket(0, 0));
        CHECK.sentence("what it FORBIDS (SORTS 0 .. 5 as bits)");
        numbers("k9 ", " 0 9;", 0, 63, x -> x.pocket(0, 1));
        for (int bits = 0; bits < 64; bits++) {
            PocketLaws x = CHECK.reads("k9 " + bits + " 0 9;", 1);
            for (int sort = 0; sort < 6; sort++) {
                CHECK.due("letsIn(0, " + sort + ") of " + bits, x.letsIn(0, sort), 1 - (bits >> sort & 1));
            }
        }
        CHECK.sentence("TAX (0 .. 9)");
        numbers("k9 0 ", " 9;", 0, 9, x -> x.pocket(0, 2));
    }

    private static void outerIsToldAhead() {
        CHECK.sentence("OUTER (a POCKET told ahead within which it is; 9: none)");
        for (int ahead = 0; ahead < 6; ahead++) {
            for (int outer = 0; outer < 12; outer++) {
                String text = K.repeat(ahead) + "k9 0 0 ";
                if (outer < ahead || outer == 9) {
                    PocketLaws x = CHECK.reads(text + outer + ";", ahead + 1);
                    CHECK.due("outer", x.pocket(ahead, 3), outer);
                    CHECK.due("depth", x.pocket(ahead, 5), outer == 9 ? 0 : 1);
                } else {
                    CHECK.faults(text + outer + ";", text.length());
                }
            }
        }
        CHECK.faults("k9 0 0 1;" + K, 7);
    }

    private static void lawsAtFirst() {
        CHECK.sentence("or its own (what it FORBIDS; at first)");
        PocketLaws x = CHECK.reads("k9 1 0 9;k9 62 0 9;", 2);
        CHECK.due("its own", x.letsIn(0, 0), 0);
        CHECK.due("its own", x.letsIn(0, 1), 1);
        CHECK.due("its own", x.letsIn(1, 0), 1);
        CHECK.due("its own", x.letsIn(1, 5), 0);
        CHECK.due("one way", x.fixed(0), 1);
    }

    private static void seamsBetweenTwo() {
        CHECK.sentence("SEAMS between two");
        for (int a = 0; a < 6; a++) {
            for (int b = 0; b < 6; b++) {
                if (a != b) {
                    PocketLaws x = CHECK.reads(K.repeat(6) + "s" + a + " " + b + ";", 7);
                    for (int k = 0; k < 6; k++) {
                        CHECK.due("seams of " + k, x.pocket(k, 6), k == a ? 1 << b : k == b ? 1 << a : 0);
                    }
                }
            }
        }
    }

    private static void holes() {
        CHECK.sentence("for things no greater than so much (1 .. 5)");
        String bulks = "t0 1 0 0;t0 2 0 0;t0 3 0 0;t0 4 0 0;t0 5 0 0;";
        numbers("k20 0 0 9;k20 0 0 9;" + bulks + "h0 1 ", ";", 1, 5, x -> x.night());
        CHECK.sentence("HOLES: from a POCKET to another one");
        PocketLaws x = CHECK.reads(TWO + "h1 0 5;t0 1 0 0;t0 1 0 1;", 5);
        CHECK.due("no hole back", x.pocket(0, 7), PocketLaws.NONE);
        CHECK.due("from 1", x.pocket(1, 7), 0);
        CHECK.due("not from 0", x.drops(0, 1), 0);
        CHECK.due("from 1", x.drops(1, 1), 0);
        CHECK.sentence("one of each at most");
        x = CHECK.reads(K.repeat(6) + "h0 1 1;h1 2 2;h2 3 3;h3 4 4;h4 5 5;h5 0 5;", 12);
        for (int k = 0; k < 6; k++) {
            CHECK.due("each has one", x.pocket(k, 7), (k + 1) % 6);
        }
        x = CHECK.reads(K.repeat(3) + "h0 1 5;h0 2 5;t0 1 0 0;", 6);
        CHECK.due("only one of 0", x.pocket(0, 7), 2);
        CHECK.due("it drops through that one", x.drops(0, 1), 2);
    }

    private static void treaties() {
        CHECK.sentence("TREATIES of two for a SORT");
        String ahead = "k9 0 2 9;k9 0 3 9;k9 0 4 9;s0 1;s1 2;t0 1 0 0;t1 1 0 0;t2 1 0 0;t3 1 0 0;t4 1 0 0;t5 1 0 0;";
        numbers(ahead + "y0 1 ", ";", 0, 5, EdgesOfTextTest::onlyFree);
        numbers(ahead + "y1 0 ", ";", 0, 5, EdgesOfTextTest::onlyFree);
        PocketLaws x = CHECK.reads(ahead + "y1 0 3;", 12);
        CHECK.due("there", x.moves(3, 1), 0);
        CHECK.due("to a third one", x.moves(3, 2), 4);
        CHECK.due("from a third one", x.moves(3, 1), 3);
        CHECK.due("and back", x.moves(3, 0), 0);
        CHECK.due("another sort", x.moves(2, 1), 3);
        x = CHECK.reads(ahead + "y0 1 3;y1 0 5;y1 2 0;", 14);
        int[] paid = {3, 3, 3, 0, 3, 0};
        for (int t = 0; t < 6; t++) {
            CHECK.due("two sorts of the same two: " + t, x.way(t, 1, 1), paid[t]);
            x.moves(t, 1);
            CHECK.due("and back: " + t, x.way(t, 0, 1), paid[t] == 0 ? 0 : 2);
        }
    }

    /** The one thing that comes to pocket 1 for nothing. */
    private static int onlyFree(PocketLaws x) {
        int found = -1;
        for (int t = 0; t < 6; t++) {
            if (x.way(t, 1, 1) == 0) {
                CHECK.due("only one is free", found, -1);
                found = t;
            } else {
                CHECK.due("tax", x.way(t, 1, 1), 3);
            }
        }
        return found;
    }

    private static void things() {
        CHECK.sentence("THINGS 0 .. (6 at most)");
        for (int n = 0; n <= 6; n++) {
            PocketLaws x = CHECK.reads(K + "t5 1 7 0;".repeat(n), n + 1);
            CHECK.due("things", x.count(1), n);
            CHECK.due("the last", x.thing(n - 1, 2), n == 0 ? PocketLaws.BAD : 7);
            CHECK.due("no more", x.thing(n, 2), PocketLaws.BAD);
        }
        CHECK.faults(K + "t5 1 7 0;".repeat(7), 63);
        CHECK.sentence("a SORT, BULK (1 .. 5), WORTH (0 .. 9), a POCKET");
        numbers(K + "t", " 1 0 0;", 0, 5, x -> x.thing(0, 0));
        numbers(K + "t0 ", " 0 0;", 1, 5, x -> x.thing(0, 1));
        numbers(K + "t0 1 ", " 0;", 0, 9, x -> x.thing(0, 2));
        for (int pockets = 1; pockets <= 6; pockets++) {
            numbers(K.repeat(pockets) + "t0 1 0 ", ";", 0, pockets - 1, x -> x.thing(0, 3));
        }
    }

    private static void twoHundredLetters() {
        CHECK.sentence("They are a text (200 letters at most)");
        CHECK.reads(EVERY_ITEM + " ".repeat(200 - EVERY_ITEM.length()), 8);
        CHECK.reads(" ".repeat(200 - EVERY_ITEM.length()) + EVERY_ITEM, 8);
        CHECK.reads(TWO + "s0 1;".repeat(36) + "  ", 38);
        CHECK.faults(TWO + "s0 1;".repeat(36) + " ;", 199);
        CHECK.faults(TWO + "s0 1;".repeat(36) + " s", 200);
        PocketLaws x = new PocketLaws();
        Check.type(x, TWO + "s0 1;".repeat(36) + "s0 1;");
        CHECK.due("the last three letters were not taken", x.count(3), 200);
        CHECK.due("so it ends too early", x.realm(), -210);
    }

    private static void blanks() {
        CHECK.sentence("blanks (32), any number, ahead of, between, behind TOKENS (needed only between two NUMBERS)");
        String[] tokens = EVERY_ITEM.replaceAll("([kanshyt;])", " $1 ").trim().split(" +");
        String told = Seen.of(CHECK.reads(EVERY_ITEM, 8));
        for (int blanks = 1; blanks <= 2; blanks++) {
            String gap = " ".repeat(blanks);
            PocketLaws x = CHECK.reads(gap + String.join(gap, tokens) + gap, 8);
            CHECK.holds("told the same with " + blanks, Seen.of(x).equals(told));
        }
        for (int i = 0; i <= tokens.length; i++) {
            StringBuilder text = new StringBuilder();
            for (int j = 0; j < tokens.length; j++) {
                boolean needed = j > 0 && isNumber(tokens[j]) && isNumber(tokens[j - 1]);
                text.append(i == j ? " ".repeat(50) : needed ? " " : "").append(tokens[j]);
            }
            CHECK.reads(text.append(i == tokens.length ? " ".repeat(50) : "").toString(), 8);
        }
        CHECK.faults("k90 0 9;", 1);
        CHECK.faults("k2 0 0 0 9;", 7);
        for (char other : new char[] {9, 10, 11, 12, 13, 31, 33, 95, 133, 160}) {
            CHECK.faults("k9" + other + "0 0 9;", 2);
            CHECK.faults(K + other, 9);
            CHECK.faults(other + K, 0);
        }
    }

    private static boolean isNumber(String token) {
        return Character.isDigit(token.charAt(0));
    }

    private static void items() {
        CHECK.sentence("ITEMS (none, too), each ended by ;");
        CHECK.reads("", 0);
        CHECK.reads(" ", 0);
        CHECK.reads(" ".repeat(200), 0);
        CHECK.faults(";", 0);
        CHECK.faults(K + ";", 9);
        CHECK.faults("k9 0 0 9 " + K, 9);
        CHECK.faults(TWO + "s0 1 s0 1;", 23);
        CHECK.faults(TWO + "s0 1", 22);
    }

    private static void unlike() {
        CHECK.sentence("A, B are unlike");
        for (char letter : "ansh".toCharArray()) {
            for (int a = 0; a < 6; a++) {
                CHECK.faults(K.repeat(6) + letter + a + " " + a + (letter == 'h' ? " 1;" : ";"), 57);
            }
        }
        CHECK.faults(TWO + "y1 1 0;", 21);
    }

    private static void theLaterOneHolds() {
        CHECK.sentence("of LAWS, of HOLES of one POCKET the later one holds");
        PocketLaws x = CHECK.reads("k9 0 0 9;k9 1 0 9;k9 0 0 9;a0 1;n0 1;a0 2;n0 1;", 7);
        CHECK.due("not as 1", x.letsIn(0, 0), 1);
        CHECK.due("not as 1", x.letsIn(0, 1), 0);
        x = CHECK.reads("k9 0 0 9;k9 1 0 9;k9 0 0 9;n0 1;n0 2;a0 1;", 6);
        CHECK.due("as 1", x.letsIn(0, 0), 0);
        CHECK.due("as 1", x.letsIn(0, 1), 1);
        x = CHECK.reads(K.repeat(3) + "a0 1;a1 0;a0 2;", 6);
        CHECK.due("the ring is gone", x.fixed(0), 1);
        CHECK.due("of another pocket it stays", x.letsIn(1, 0), 1);
        x = CHECK.reads(K.repeat(3) + "h0 1 5;h1 2 5;h0 2 1;t0 2 0 0;t0 1 0 0;t0 2 0 1;", 9);
        CHECK.due("leads elsewhere", x.pocket(0, 7), 2);
        CHECK.due("of another pocket it stays", x.pocket(1, 7), 2);
        CHECK.due("and is smaller", x.drops(0, 1), 0);
        CHECK.due("and is smaller", x.drops(1, 1), 2);
        CHECK.due("of another pocket it stays", x.drops(2, 1), 2);
        x = CHECK.reads(TWO + "h0 1 1;h0 1 2;t0 2 0 0;", 5);
        CHECK.due("and is greater", x.drops(0, 1), 1);
    }

    private static void toldAgain() {
        CHECK.sentence("SEAMS, TREATIES (12 of these at most) may be told again");
        PocketLaws x = CHECK.reads("k9 0 0 9;k9 0 5 9;" + "s0 1;s1 0;".repeat(14) + "y0 1 2;".repeat(3) + "t2 1 0 0;", 34);
        CHECK.due("one seam", x.pocket(0, 6), 2);
        CHECK.due("one seam", x.pocket(1, 6), 1);
        CHECK.due("treaties told", x.count(2), 3);
        CHECK.due("it holds", x.way(0, 1, 1), 0);
        for (int n = 0; n <= 12; n++) {
            CHECK.due("treaties told", CHECK.reads(TWO + "y1 0 4;".repeat(n), n + 2).count(2), n);
        }
        CHECK.faults(TWO + "y1 0 4;".repeat(13), 102);
        String twelve = "y0 1 0;y0 1 1;y0 1 2;y0 1 3;y0 1 4;y0 1 5;y0 2 0;y0 2 1;y0 2 2;y0 2 3;y0 2 4;y0 2 5;";
        CHECK.due("twelve unlike", CHECK.reads(K + TWO + twelve, 15).count(2), 12);
        CHECK.faults(K + TWO + twelve + "y0 1 0;", 111);
        CHECK.faults(K + TWO + twelve + "y1 2 0;", 111);
    }

    private static void whatIsNotThere() {
        CHECK.sentence("a POCKET that there is not, a B that is A, an O that was not told");
        for (int pockets = 0; pockets <= 6; pockets++) {
            for (char letter : "anshy".toCharArray()) {
                for (int a = 0; a <= 9; a++) {
                    pairs(K.repeat(pockets) + letter, pockets, a, letter == 'h' || letter == 'y' ? " 1;" : ";");
                }
            }
            CHECK.faults(K.repeat(pockets) + "t0 1 0 " + pockets + ";", 9 * pockets + 7);
        }
        CHECK.faults("t0 1 0 0;" + K, 7);
        CHECK.faults(K + "s0 1;" + K, 12);
        CHECK.faults(K + "s1 0;" + K, 10);
    }

    private static void pairs(String ahead, int pockets, int a, String behind) {
        for (int b = 0; b <= 9; b++) {
            String text = ahead + a + " " + b + behind;
            if (a >= pockets) {
                CHECK.faults(text, ahead.length());
            } else if (b >= pockets || b == a) {
                CHECK.faults(text, ahead.length() + 2);
            } else {
                CHECK.reads(text, pockets + 1);
            }
        }
    }

    private static void tooManyTold() {
        CHECK.sentence("a seventh k, t, a thirteenth y");
        CHECK.faults(K.repeat(6) + "k", 54);
        CHECK.faults(K.repeat(6) + "k99", 54);
        CHECK.faults(K.repeat(6) + "  k0", 56);
        CHECK.faults(K + "t0 1 0 0;".repeat(6) + "t", 63);
        CHECK.faults(K + "t0 1 0 0;".repeat(6) + "t 9", 63);
        CHECK.faults(TWO + "y0 1 0;".repeat(12) + "y", 102);
        CHECK.faults(TWO + "y0 1 0;".repeat(12) + " y9", 103);
        CHECK.reads(K.repeat(6) + "t0 1 0 5;".repeat(6) + "y0 1 0;".repeat(12), 24);
    }

    private static void otherLetters() {
        CHECK.sentence("of any other letter");
        for (int letter = 0; letter < 256; letter++) {
            char c = (char) letter;
            boolean digit = c >= '0' && c <= '9';
            if (!digit && c != ' ') {
                CHECK.faults("k9 " + c + " 0 9;", 3);
                CHECK.faults("k9 0 0 " + c + ";", 7);
            }
            if ("kanshyt".indexOf(c) >= 0) {
                CHECK.faults(K + c, 10);
                CHECK.faults("k" + c, 1);
                CHECK.faults("k9 0 0 9" + c, 8);
            } else if (c == ' ') {
                CHECK.reads(K + c, 1);
                CHECK.faults("k" + c, 2);
                CHECK.faults("k9 0 0 9" + c, 9);
            } else {
                CHECK.faults(K + c, 9);
                CHECK.faults("k" + c, digit && c != '0' ? 2 : 1);
                if (c != ';') {
                    CHECK.faults("k9 0 0 9" + c, digit ? 7 : 8);
                }
            }
        }
    }

    private static void longNumbers() {
        CHECK.sentence("a NUMBER above 99");
        String[] long1 = {"100", "101", "109", "999", "1000", "65545", "4294967305", "18446744073709551625", "9".repeat(150)};
        for (String number : long1) {
            CHECK.faults("k" + number + " 0 0 9;", 1);
            CHECK.faults("k9 0 0 " + number + ";", 7);
            CHECK.faults(number, 0);
            CHECK.faults(K + " " + number, 10);
            CHECK.faults("k9 0 0 9 " + number, 9);
        }
    }

    private static void zerosAhead() {
        CHECK.sentence("or with a 0 ahead of others");
        for (String number : new String[] {"00", "01", "09", "009", "0000000009", "0100"}) {
            CHECK.faults("k" + number + " 0 0 9;", 1);
            CHECK.faults("k9 " + number + " 0 9;", 3);
            CHECK.faults("k9 0 " + number + " 9;", 5);
            CHECK.faults("k9 0 0 " + number + ";", 7);
        }
        CHECK.reads("k10 0 0 9;k20 10 0 9;", 2);
    }

    private static void endsTooEarly() {
        CHECK.sentence("the text's length, if it ends too early");
        int items = 0;
        for (int length = 0; length <= EVERY_ITEM.length(); length++) {
            String cut = EVERY_ITEM.substring(0, length);
            if (length == 0 || cut.endsWith(";")) {
                items += length == 0 ? 0 : 1;
                CHECK.reads(cut, items);
                CHECK.reads(cut + "  ", items);
            } else {
                CHECK.faults(cut, length);
                CHECK.faults(cut + "   ", length + 3);
            }
        }
    }

    private static void theFirstFault() {
        CHECK.sentence("the place of the first letter of the first TOKEN that can't stand there");
        CHECK.faults("k0 64 10 8", 1);
        CHECK.faults("k9 64 10 8", 3);
        CHECK.faults("k9 0 10 8", 5);
        CHECK.faults("k9 0 0 8", 7);
        CHECK.faults("k21 ?", 1);
        CHECK.faults("kk 100", 1);
        CHECK.faults("k; 00", 1);
        CHECK.faults(K + "s0 0 ?", 12);
        CHECK.faults(K + "s0 0", 12);
        CHECK.faults("k   99 0", 4);
        CHECK.faults("k9 0 0 9 9;", 9);
        CHECK.faults("k9 0 0;", 6);
    }

    private static void promiseType() {
        CHECK.sentence("A letter (0 .. 255) comes to THE TEXT: how many it has. BAD; FULL.");
        PocketLaws x = new PocketLaws();
        for (int letter = 0; letter < 200; letter++) {
            CHECK.due("type(" + letter + ")", x.type(letter), letter + 1);
        }
        String before = Seen.of(x);
        CHECK.due("full", x.type(0), PocketLaws.FULL);
        CHECK.due("full", x.type(255), PocketLaws.FULL);
        CHECK.due("BAD ahead of FULL", x.type(-1), PocketLaws.BAD);
        CHECK.due("BAD ahead of FULL", x.type(256), PocketLaws.BAD);
        CHECK.holds("nothing changes", Seen.of(x).equals(before));
        CHECK.due("clear", x.clear(), 200);
        for (int letter = 200; letter < 256; letter++) {
            CHECK.due("type(" + letter + ")", x.type(letter), letter - 199);
        }
        for (int wrong : new int[] {-1, 256, 'k' + 256, Integer.MIN_VALUE, Integer.MAX_VALUE}) {
            CHECK.due("type(" + wrong + ")", x.type(wrong), PocketLaws.BAD);
        }
        CHECK.due("letters", x.count(3), 56);
    }

    private static void promiseClear() {
        CHECK.sentence("THE TEXT is empty: how many letters it had");
        PocketLaws x = CHECK.reads(EVERY_ITEM, 8);
        String before = Seen.of(x);
        CHECK.due("none", x.clear(), 0);
        x.type('?');
        CHECK.due("one", x.clear(), 1);
        CHECK.due("none", x.clear(), 0);
        CHECK.holds("the realm stays", Seen.of(x).equals(before));
        CHECK.due("from the first place on", x.type('k'), 1);
        CHECK.due("what was ahead is gone", x.realm(), -11);
    }

    private static void promiseRealm() {
        CHECK.sentence("THE TEXT tells all anew, and is empty then: how many ITEMS");
        PocketLaws x = CHECK.reads(EVERY_ITEM, 8);
        CHECK.due("the text was emptied, so this tells nothing", x.realm(), 0);
        CHECK.holds("all is as in a new object", Seen.of(x).equals(Seen.of(new PocketLaws())));
        x = CHECK.reads("k9 0 0 9;k9 0 5 9;k9 0 0 1;n1 0;s0 1;s1 2;h0 1 5;h1 2 5;y0 1 0;t0 1 0 0;t0 1 0 1;", 11);
        Check.type(x, "k9 0 7 9;k9 0 6 9;s0 1;t0 1 9 1;");
        CHECK.due("told anew", x.realm(), 4);
        PocketLaws fresh = CHECK.reads("k9 0 7 9;k9 0 6 9;s0 1;t0 1 9 1;", 4);
        CHECK.holds("nothing is left of what was told", Seen.of(x).equals(Seen.of(fresh)));
        CHECK.due("no treaty is left", x.way(0, 0, 1), 7);
        CHECK.due("no hole is left", x.drops(0, 9), 1);
        CHECK.due("no hole is left", x.night(), 0);
    }

    private static void toldOverAndOver() {
        CHECK.sentence("THE TEXT tells all anew");
        String rich = "k9 0 1 9;k9 0 5 9;k9 63 2 1;n1 0;a0 2;s0 1;s1 2;h0 1 5;h1 2 5;y0 1 0;y1 0 1;t0 1 0 0;t1 1 0 1;";
        String plain = "k9 0 7 9;k9 4 6 9;k9 0 5 9;s0 1;t0 1 9 1;t1 1 9 0;";
        String told = Seen.of(CHECK.reads(plain, 6));
        PocketLaws x = new PocketLaws();
        for (int round = 0; round < 3; round++) {
            // Over and over, since a reading may come upon the leavings of one before the last.
            for (String text : new String[] {rich, plain, rich + "?", plain, plain}) {
                x.clear();
                Check.type(x, text);
                CHECK.holds("refused just if it is at fault", x.realm() < 0 == text.endsWith("?"));
                if (text.equals(plain)) {
                    CHECK.holds("nothing is left of what was told", Seen.of(x).equals(told));
                    CHECK.due("no treaty is left", x.way(0, 0, 1), 7);
                    CHECK.due("no treaty is left", x.way(1, 1, 1), 6);
                    CHECK.due("no seam is left", x.way(0, 2, 1), PocketLaws.NONE);
                    CHECK.due("no hole is left", x.drops(0, 9), 1);
                }
            }
        }
    }

    private static void refusedRealm() {
        CHECK.sentence("-10 less FAULT: nothing changes (THE TEXT stays, too)");
        PocketLaws x = CHECK.reads("k9 0 0 9;k9 0 2 9;s0 1;y0 1 5;h1 0 5;t0 1 0 0;", 6);
        x.keep(0);
        x.moves(0, 1);
        x.rate(0, 0);
        Check.type(x, "k1 1 1 9;n0");
        String before = Seen.of(x);
        CHECK.due("ends too early", x.realm(), -21);
        CHECK.due("once more", x.realm(), -21);
        CHECK.holds("nothing changes", Seen.of(x).equals(before));
        CHECK.due("the hole stays", x.drops(0, 1), 0);
        CHECK.due("undo", x.undo(), 0);
        CHECK.due("the image stays", x.back(0), 0);
        x.clear();
        Check.type(x, "k1 1 1 9;t1 1 1");
        CHECK.due("ends too early", x.realm(), -25);
        Check.type(x, " 0;");
        CHECK.due("the text goes on where it stayed", x.realm(), 2);
        CHECK.due("told", x.thing(0, 0), 1);
        x.type(';');
        CHECK.due("a fault at the first place", x.realm(), -10);
    }
}
