import java.io.IOException;

/**
 * The document sentence by sentence: every answer is looked at under the words that it is due by, and no words of
 * 'Terms' and of promises 1 to 34 are without one.
 */
public final class SentencesTest {
    private static final int MOST_CALLS = 512;

    public static void main(String[] args) throws IOException {
        Said said = new Said("SentencesTest");
        new TermsOfDeniers(said).look();
        new TermsOfTexts(said).look();
        new TermsOfMind(said).look();
        refusals(said);
        new PromisesOfSchools(said).look();
        new PromisesOfMind(said).look();
        new PromisesOfShelves(said).look();
        howLongAnObjectIsUsed(said);
        said.finish();
    }

    private static void refusals(Said said) {
        said.at("Terms");
        said.that("Answers of several refusals are the first one as they are told at the call");
        Whole.unchanged(said, "run: what ahead of nothing held", -1, x -> x.run(7, 2));
        Whole.unchanged(said, "row: no shelf ahead of a size below 0", -1, x -> x.row(8, 0, -1));
        Whole.unchanged(said, "row: no sort ahead of a size below 0", -1, x -> x.row(7, 3, -1));
        Whole.unchanged(said, "put: nothing held ahead of no place", -11, x -> x.put(7, -1, 0));
        Whole.unchanged(said, "put: another kind ahead of no place", -12, x -> x.put(4, -1, 0));
        Whole.unchanged(said, "element: no shelf ahead of no place", 1, x -> Check.thrownAtElement(x, -1, -1));
        Whole.unchanged(said, "copy: no shelf ahead of nothing held", -1, x -> x.copy(7, 0, 8, 0, 0));
        Whole.unchanged(said, "copy: nothing held ahead of another kind", -11, x -> x.copy(4, 0, 7, 0, 0));
        Whole.unchanged(said, "copy: another kind ahead of no place", -12, x -> x.copy(4, -1, 1, 0, 0));
        Whole.unchanged(said, "copy: another sort ahead of no place", -12, x -> x.copy(2, -1, 1, 0, 0));
        Whole.unchanged(said, "deny: no sentence ahead of a dead one", -1, x -> x.deny(4, 4));
        Whole.unchanged(said, "seeded: n", -1, x -> x.seeded(0, 0));
        said.due("seeded: n ahead of no deniers", new HoldsOnceDenied().seeded(41, 0), -1);
        HoldsOnceDenied full = Check.schoolOf("d00;".repeat(6));
        said.due("comes: nothing held ahead of no room", full.comes(7), -11);
        said.due("comes: another kind ahead of no room", full.comes(0), -12);
        said.that("-1 no such thing, a number out of range, or not as told; -2 no room; -3 it can't be as things stand; -4 none; -11 to -15.");
        Whole.unchanged(said, "no such thing", -1, x -> x.sentence(4, 0));
        Whole.unchanged(said, "a number out of range", -1, x -> x.hire(10, 0));
        Whole.unchanged(said, "not as told", -1, x -> x.keep(7, 2, 0, 0));
        full.keep(7, 1, 0, 0);
        said.due("no room", full.comes(7), -2);
        Whole.unchanged(said, "it can't be", -3, x -> x.die(4));
        Whole.unchanged(said, "none", -4, x -> x.first(0));
        Whole.unchanged(said, "nothing held", -11, x -> x.price(7));
        Whole.unchanged(said, "another kind", -12, x -> x.price(1));
        Whole.unchanged(said, "no place", -13, x -> x.put(1, 3, 0));
        Whole.unchanged(said, "below 0", -14, x -> x.row(1, 0, -1));
        said.due("no failure", failureOfFigure0(), -15);
        said.that("A refused call changes nothing.");
        Whole.unchanged(said, "school", -2000, x -> x.school(0));
        Whole.unchanged(said, "comes", -11, x -> x.comes(7));
        Whole.unchanged(said, "learns", -1, x -> x.learns(0, 4));
        Whole.unchanged(said, "deny", -3, x -> x.deny(1, 3));
        Whole.unchanged(said, "die", -3, x -> x.die(4));
        Whole.unchanged(said, "keep", -1, x -> x.keep(4, 1, 8, 0));
        Whole.unchanged(said, "row", -14, x -> x.row(4, 0, -7));
        Whole.unchanged(said, "put", -13, x -> x.put(1, 3, 9));
        Whole.unchanged(said, "copy", -13, x -> x.copy(1, 0, 5, 1, 3));
        HoldsOnceDenied none = Check.schoolOf("s;d00;x00;");
        said.due("restore", none.restore(), -3);
        said.due("all is there", none.count(3) + none.count(2), 2);
    }

    private static int failureOfFigure0() {
        HoldsOnceDenied x = new HoldsOnceDenied();
        x.keep(0, 1, 0, 0);
        return x.toss(0);
    }

    /** The last call that is promised answers as any other, the dearest ones, too. */
    private static void howLongAnObjectIsUsed(Said said) {
        said.at("What it is");
        said.that("An object is used for at most 512 calls after it has been made; what later calls answer is free.");
        HoldsOnceDenied x = Check.schoolOf("s;s;n10;d30;d00;");
        int calls = 2 + "s;s;n10;d30;d00;".length();
        for (; calls < MOST_CALLS - 1; calls++) {
            x.deny(0, 1);
        }
        said.due("day, by the last call", x.count(2), MOST_CALLS - 1 - 2 - "s;s;n10;d30;d00;".length());
        HoldsOnceDenied rows = new HoldsOnceDenied();
        for (calls = 0; calls < MOST_CALLS; calls++) {
            said.due("a row by call " + calls, rows.row(calls % 8, 2, 100), 0);
        }
        String full = "s;".repeat(9) + "n87;n86;n76;n65;n54;n43;n32;n21;n10;d00;d10;d29;d49;d59;d79;";
        HoldsOnceDenied dear = Check.schoolOf(full);
        for (calls = 2 + full.length(); calls < MOST_CALLS; calls++) {
            // The wise one takes all nine: 0 steps, 1 step seven times, 2 steps.
            said.due("the steps to all, or how many with one more, by call " + calls, calls % 2 == 0 ? dear.all() : dear.hire(9, 1), 9);
        }
    }
}
