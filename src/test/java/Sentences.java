/** Tests that each are named by the sentence of the document that they hold against the class. */
abstract class Sentences extends Models {
    private final Document document;
    private String section = "Terms";

    Sentences(Document document) {
        this.document = document;
    }

    /** Runs all tests. */
    abstract void all();

    final void section(String name) {
        section = name;
    }

    final void test(String sentence, String edge, Runnable body) {
        Check.part(section + ": \"" + sentence + "\" - " + edge);
        Check.holds("the document says so", document.name(section, sentence));
        Check.ends(body);
    }
}
