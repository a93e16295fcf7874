/** Counts the answers of a test that are not the ones due; prints each of them. */
final class Check {
    private final String name;
    private String sentence = "";
    private int asked;
    private int wrong;

    Check(String name) {
        this.name = name;
    }

    /** The words of the document that the checks behind this look at: printed with each wrong answer. */
    void sentence(String words) {
        sentence = " \"" + words + "\":";
    }

    void due(String call, long got, long want) {
        asked++;
        if (got != want) {
            wrong++;
            System.out.println(name + ":" + sentence + " " + call + " answered " + got + ", due is " + want);
        }
    }

    void holds(String what, boolean does) {
        due(what, does ? 1 : 0, 1);
    }

    /** A new object to which a text is told. */
    PocketLaws told(String text) {
        PocketLaws laws = new PocketLaws();
        type(laws, text);
        holds("realm of " + text, laws.realm() >= 0);
        return laws;
    }

    /** A new object to which a text of so many items is told. */
    PocketLaws reads(String text, int items) {
        PocketLaws x = new PocketLaws();
        type(x, text);
        due("realm of '" + text + "'", x.realm(), items);
        due("the text is empty behind '" + text + "'", x.count(3), 0);
        return x;
    }

    void faults(String text, int place) {
        PocketLaws x = new PocketLaws();
        type(x, text);
        due("realm of '" + text + "'", x.realm(), -10 - place);
        due("the text stays '" + text + "'", x.count(3), text.length());
        due("nothing told by '" + text + "'", x.count(0), 0);
    }

    static void type(PocketLaws laws, String text) {
        for (int i = 0; i < text.length(); i++) {
            laws.type(text.charAt(i));
        }
    }

    void end() {
        System.out.println(name + ": " + asked + " answers, " + wrong + " wrong");
        if (wrong != 0) {
            System.exit(1);
        }
    }
}
