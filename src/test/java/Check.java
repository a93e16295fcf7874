/** Counts the answers of a test that are not the ones due; prints each of them. */
final class Check {
    private final String name;
    private int asked;
    private int wrong;

    Check(String name) {
        this.name = name;
    }

    void due(String call, long got, long want) {
        asked++;
        if (got != want) {
            wrong++;
            System.out.println(name + ": " + call + " answered " + got + ", due is " + want);
        }
    }

    void holds(String what, boolean does) {
        due(what, does ? 1 : 0, 1);
    }

    /** A new object to which a text is told. */
    PocketLaws told(String text) {
        PocketLaws laws = new PocketLaws();
        type(laws, text);
        holds("realm of " + text, laws.realm() >= 0);
        return laws;
    }

    static void type(PocketLaws laws, String text) {
        for (int i = 0; i < text.length(); i++) {
            laws.type(text.charAt(i));
        }
    }

    void end() {
        System.out.println(name + ": " + asked + " answers, " + wrong + " wrong");
        if (wrong != 0) {
            System.exit(1);
        }
    }
}
