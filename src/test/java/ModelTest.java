import java.util.Random;

/** Runs of calls by chance (always the same ones), each answer compared with the model's. */
final class ModelTest {
    private static final Check CHECK = new Check("ModelTest");
    private static final int RUNS = 2500;
    private static final int TEXTS = 60000;

    private final Random random;
    private final PocketLaws laws = new PocketLaws();
    private final Model model = new Model();
    private final String run;

    private ModelTest(int seed, String name) {
        random = new Random(seed);
        run = name + " " + seed + ": ";
    }

    public static void main(String[] args) {
        for (int seed = 0; seed < RUNS; seed++) {
            new ModelTest(seed, "run").calls();
        }
        for (int seed = 0; seed < TEXTS; seed++) {
            new ModelTest(seed, "text").texts();
        }
        CHECK.end();
    }

    private void calls() {
        int tellings = 1 + random.nextInt(5);
        for (int i = 0; i < tellings; i++) {
            tell(random.nextInt(6) == 0 ? spoilt(goodText()) : goodText());
            int calls = 20 + random.nextInt(60);
            for (int j = 0; j < calls; j++) {
                oneCall();
            }
            same("clear", laws.clear(), model.clear());
        }
    }

    private void texts() {
        String text = random.nextInt(8) == 0 ? noise() : spoilt(goodText());
        tell(text);
        for (int what = 0; what < 4; what++) {
            same("count", laws.count(what), model.count(what));
        }
        for (int what = 0; what < 8; what++) {
            int k = random.nextInt(6);
            same("pocket", laws.pocket(k, what), model.pocket(k, what));
            same("thing", laws.thing(k, what), model.thing(k, what));
        }
    }

    private void tell(String text) {
        for (int i = 0; i < text.length(); i++) {
            same("type", laws.type(text.charAt(i)), model.type(text.charAt(i)));
        }
        same("realm of '" + text + "'", laws.realm(), model.realm());
    }

    private String goodText() {
        StringBuilder text = new StringBuilder();
        int pockets = random.nextInt(10) == 0 ? random.nextInt(3) : 2 + random.nextInt(5);
        boolean strict = random.nextBoolean();
        for (int k = 0; k < pockets; k++) {
            int outer = k > 0 && random.nextInt(3) == 0 ? random.nextInt(k) : 9;
            int size = random.nextInt(3) == 0 ? 1 + random.nextInt(20) : 3 + random.nextInt(6);
            int forbids = strict ? random.nextInt(64) : random.nextInt(64) & random.nextInt(64) & random.nextInt(64);
            item(text, "k", size, forbids, random.nextInt(10), outer);
        }
        int sorts = 1 + random.nextInt(6);
        int things = random.nextInt(7);
        if (pockets > 0) {
            for (int t = 0; t < things; t++) {
                item(text, "t", random.nextInt(sorts), 1 + random.nextInt(5), random.nextInt(10), random.nextInt(pockets));
            }
        }
        if (pockets > 1) {
            int more = random.nextInt(24);
            for (int i = 0; i < more; i++) {
                pairItem(text, pockets, sorts);
            }
        }
        return text.toString();
    }

    private void pairItem(StringBuilder text, int pockets, int sorts) {
        int a = random.nextInt(pockets);
        int b = (a + 1 + random.nextInt(pockets - 1)) % pockets;
        switch (random.nextInt(9)) {
            case 0 -> item(text, random.nextInt(3) == 0 ? "a" : "s", a, b);
            case 1 -> item(text, random.nextInt(3) == 0 ? "n" : "s", a, b);
            case 2, 3, 4 -> item(text, "s", a, b);
            case 5, 6, 7 -> item(text, "h", a, b, 1 + random.nextInt(5));
            default -> item(text, "y", a, b, random.nextInt(sorts));
        }
    }

    private void item(StringBuilder text, String letter, int... numbers) {
        StringBuilder item = new StringBuilder(letter);
        for (int i = 0; i < numbers.length; i++) {
            item.append(i == 0 ? "" : " ").append(numbers[i]);
        }
        item.append(';');
        if (text.length() + item.length() <= 200) {
            text.append(item);
        }
    }

    private String spoilt(String good) {
        StringBuilder text = new StringBuilder(good);
        int times = random.nextInt(3);
        String letters = "kanshyt;0123456789   x";
        for (int i = 0; i < times && text.length() > 0; i++) {
            int place = random.nextInt(text.length());
            char letter = random.nextInt(20) == 0 ? (char) random.nextInt(256) : letters.charAt(random.nextInt(letters.length()));
            switch (random.nextInt(4)) {
                case 0 -> text.deleteCharAt(place);
                case 1 -> text.insert(place, letter);
                case 2 -> text.setCharAt(place, letter);
                default -> text.setLength(place);
            }
        }
        return text.toString();
    }

    private String noise() {
        String[] words = {"k", "a", "n", "s", "h", "y", "t", ";", "0", "1", "9", " ", "  ", "00", "99", "100", "k9 0 0 9;", "t0 1 1 0;"};
        StringBuilder text = new StringBuilder();
        int length = random.nextInt(30);
        for (int i = 0; i < length; i++) {
            text.append(words[random.nextInt(words.length)]);
        }
        return text.toString();
    }

    /** Mostly a number below the limit, at times one that is just not. */
    private int number(int limit) {
        int n = random.nextInt(30);
        return n == 0 ? -1 : n == 1 ? limit : n == 2 ? random.nextInt() : limit > 0 ? random.nextInt(limit) : 0;
    }

    private void oneCall() {
        int k = number(Math.max(1, model.count(0)));
        int t = number(Math.max(1, model.count(1)));
        int j = number(Math.max(1, model.count(0)));
        int what = number(2);
        int n = number(21);
        switch (random.nextInt(30)) {
            case 0, 1, 2, 3, 4, 5, 6 -> same("moves", laws.moves(t, k), model.moves(t, k));
            case 7, 8, 9 -> same("night", laws.night(), model.night());
            case 10, 11 -> same("undo", laws.undo(), model.undo());
            case 12 -> same("keep", laws.keep(what), model.keep(what));
            case 13 -> same("back", laws.back(what), model.back(what));
            case 14 -> same("way", laws.way(t, k, what), model.way(t, k, what));
            case 15 -> same("saves", laws.saves(t, k), model.saves(t, k));
            case 16 -> stow(t);
            case 17 -> same("hoard", laws.hoard(k), model.hoard(k));
            case 18 -> same("drops", laws.drops(t, n), model.drops(t, n));
            case 19 -> same("lay", laws.lay(t, n % 4), model.lay(t, n % 4));
            case 20 -> same("stitches", laws.stitches(k, j, what), model.stitches(k, j, what));
            case 21, 22 -> odds(t, k);
            case 23 -> rates(k);
            case 24 -> same("letsIn", laws.letsIn(k, n % 7), model.letsIn(k, n % 7));
            case 25 -> same("fixed", laws.fixed(n % 7), model.fixed(n % 7));
            case 26 -> same("pocket", laws.pocket(k, n % 9), model.pocket(k, n % 9));
            case 27 -> same("thing", laws.thing(t, n % 6), model.thing(t, n % 6));
            case 28 -> same("count", laws.count(n % 5), model.count(n % 5));
            default -> nows();
        }
    }

    private void stow(int t) {
        if (model.count(1) > 4 && random.nextInt(3) > 0) {
            return;
        }
        same("stow", laws.stow(-1), model.stow(-1));
        same("stow", laws.stow(t), model.stow(t));
    }

    private void odds(int t, int k) {
        int p = number(11);
        int n = number(7);
        for (int what = 0; what < 3; what++) {
            same("odds", laws.odds(t, k, p, n, what), model.odds(t, k, p, n, what));
        }
    }

    private void rates(int k) {
        int kind = number(6);
        same("rate", laws.rate(kind, k), model.rate(kind, k));
        same("trace", laws.trace(), model.trace());
    }

    private void nows() {
        for (int what = -1; what < 6; what++) {
            same("now", laws.now(what), model.now(what));
        }
    }

    private void same(String call, long got, long want) {
        CHECK.due(run + call, got, want);
    }
}
