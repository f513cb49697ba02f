import java.io.IOException;

/** A test told by the document's own sentences: what is looked at stands under a section and the words quoted from it. */
final class Said {
    private final Book book = new Book();
    private final Check check;
    private String section = "";
    private String words = "";
    private int lookedAtThese = 1;

    Said(String name) throws IOException {
        check = new Check(name);
    }

    void at(String title) {
        section = title;
    }

    /** What is due from here on is due by these words of the section. */
    void that(String quoted) {
        closeQuote();
        words = quoted;
        lookedAtThese = 0;
        check.holds("'" + quoted + "' stands in the document's section '" + section + "'", book.quote(section, quoted));
    }

    void due(String what, long got, long want) {
        lookedAtThese++;
        check.due(section + ", '" + words + "': " + what, got, want);
    }

    void holds(String what, boolean so) {
        due(what, so ? 1 : 0, 1);
    }

    private void closeQuote() {
        check.holds("something is looked at by '" + words + "'", lookedAtThese > 0);
    }

    void finish() {
        closeQuote();
        allIsQuoted("Terms");
        check.due("how many promises there are", book.promises().size(), 34);
        for (String promise : book.promises()) {
            allIsQuoted(promise);
        }
        check.finish();
    }

    private void allIsQuoted(String title) {
        for (String left : book.unquoted(title)) {
            check.holds(title + " has no test of '" + left + "'", false);
        }
    }
}
