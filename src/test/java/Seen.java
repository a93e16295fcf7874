/** All that can be seen of an object without changing it, as one text, so that two moments can be compared. */
final class Seen {
    private Seen() {
    }

    /** Some 150 calls, none of which changes anything. */
    static String of(PocketLaws x) {
        StringBuilder all = new StringBuilder();
        for (int what = 0; what < 5; what++) {
            add(all, "now", x.now(what));
            add(all, "count", x.count(what));
        }
        for (int k = 0; k < x.count(0); k++) {
            for (int what = 0; what < 8; what++) {
                add(all, "pocket " + k, x.pocket(k, what));
            }
            for (int sort = 0; sort < 6; sort++) {
                add(all, "lets " + k, x.letsIn(k, sort));
            }
        }
        for (int t = 0; t < x.count(1); t++) {
            for (int what = 0; what < 5; what++) {
                add(all, "thing " + t, x.thing(t, what));
            }
        }
        for (int sort = 0; sort < 6; sort++) {
            add(all, "fixed", x.fixed(sort));
        }
        return all.append("trace ").append(x.trace()).toString();
    }

    private static void add(StringBuilder all, String what, int answer) {
        all.append(what).append(' ').append(answer).append("; ");
    }
}
