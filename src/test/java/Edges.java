/** Tests of edges: each names the promise, and the sentence of the document, that it holds the class to. */
abstract class Edges {
    static final int NONE = Check.NONE, BAD = Check.BAD, STATE = Check.STATE, FULL = Check.FULL;
    static final int NULL = Check.NULL, PLACE = Check.PLACE, KIND = Check.KIND, SIZE = Check.SIZE, STORE = Check.STORE;
    static final int MIN = Integer.MIN_VALUE, MAX = Integer.MAX_VALUE;

    private final Check check;
    private final Document document;
    private String sentence = "";

    Edges(Check check, Document document) {
        this.check = check;
        this.document = document;
    }

    abstract void all();

    /** What is due from here on, is due by this sentence. */
    void holds(int promise, String words) {
        sentence = "promise " + promise + ", \"" + words + "\": ";
        check.due(sentence + "stands in the document", 1, document.name(promise, words) ? 1 : 0);
    }

    void due(String call, long want, long got) {
        check.due(sentence + call, want, got);
    }

    void bad(String call, long got) {
        due(call, BAD, got);
    }

    static int rules(VillageHalls x, String text) {
        return Check.rules(x, text);
    }

    /** A new object that has read a text. */
    static VillageHalls ruled(String text) {
        VillageHalls x = new VillageHalls();
        rules(x, text);
        return x;
    }

    /** HALL, FLOOR, day, from, to, people, USE, LICENCE, CAME. */
    static int book(VillageHalls x, int... items) {
        return Check.book(x, items);
    }
}
