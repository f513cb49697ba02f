import java.io.IOException;
import java.nio.file.Files;
import java.nio.file.Path;
import java.util.Arrays;

/** Terms: shelves and their refusals, the text of a school, what is said once more, what the interface says. */
final class TermsOfTexts {
    private final Said said;

    TermsOfTexts(Said said) {
        this.said = said;
    }

    void look() throws IOException {
        said.at("Terms");
        shelves();
        rows();
        lowestBits();
        refusalsOfShelves();
        placesAndFailures();
        rowsOfDenials();
        statements();
        denialsInTexts();
        faultsOfTheFirstKind();
        faultsOfTheSecondKind();
        numbersAndWhatIsThere();
        noRoomAndTheFault();
        allOrNothing();
        saidOnceMore();
        headings();
    }

    private void shelves() {
        said.that("SHELVES 0 .. 7 each hold nothing (at first), a DENIER, a ROW.");
        HoldsOnceDenied x = new HoldsOnceDenied();
        for (int d = 0; d < 8; d++) {
            said.due("nothing at first on " + d, x.price(d), -11);
            said.due("a denier on " + d, x.keep(d, 1, 2, d), 0);
            said.due("it is there", x.price(d), 3 + d);
            said.due("a row in its place", x.row(d, 0, d), 0);
            said.due("no denier any more", x.price(d), -12);
            said.due("the row is there", x.put(d, d, 1), -13);
            said.due("a denier in its place", x.keep(d, 1, 1, 1), 0);
            said.due("no row any more", x.put(d, 0, 1), -12);
            said.due("nothing in its place", x.keep(d, 0, 0, 0), 0);
            said.due("nothing there", x.put(d, 0, 1), -11);
        }
        said.due("no shelf 8", x.keep(8, 0, 0, 0), -1);
        said.due("no shelf below 0", x.keep(-1, 0, 0, 0), -1);
        said.due("no row on shelf 8", x.row(8, 0, 0), -1);
        said.due("no row below 0", x.row(-1, 0, 0), -1);
    }

    private void rows() {
        said.that("A ROW has a SORT (0 bytes, 1 shorts, 2 ints) and 0 .. 100 elements, 0 at first");
        HoldsOnceDenied x = new HoldsOnceDenied();
        long[] most = {-128, -32768, Integer.MIN_VALUE};
        int[] signs = {1 << 7, 1 << 15, 1 << 31};
        for (int sort = 0; sort < 3; sort++) {
            said.due("sort " + sort + ", none", x.row(0, sort, 0), 0);
            said.due("no element", x.put(0, 0, 1), -13);
            said.due("sort " + sort + ", one", x.row(0, sort, 1), 0);
            said.due("no second element", x.put(0, 1, 1), -13);
            said.due("sort " + sort + ", a hundred", x.row(0, sort, 100), 0);
            long sum = 0;
            for (int i = 0; i < 100; i++) {
                sum += x.element(0, i) == 0 ? 0 : 1;
            }
            said.due("all 0 at first", sum, 0);
            said.due("the last place", x.put(0, 99, signs[sort]), 0);
            said.due("the sign's bit of sort " + sort, x.element(0, 99), most[sort]);
            said.due("no place behind the last", x.put(0, 100, 1), -13);
            said.due("a hundred and one", x.row(0, sort, 101), -1);
        }
        said.due("no sort 3", x.row(0, 3, 1), -1);
        said.due("no sort below 0", x.row(0, -1, 1), -1);
    }

    private void lowestBits() {
        said.that("what is put in keeps its lowest bits.");
        HoldsOnceDenied x = new HoldsOnceDenied();
        int[] given = {127, 128, 255, 256, 257, -128, -129, 32767, 32768, 65535, 65536, -32769, Integer.MAX_VALUE, Integer.MIN_VALUE};
        long[] bytes = {127, -128, -1, 0, 1, -128, 127, -1, 0, -1, 0, -1, -1, 0};
        long[] shorts = {127, 128, 255, 256, 257, -128, -129, 32767, -32768, -1, 0, 32767, -1, 0};
        Check.fill(x, 0, 0, given);
        Check.fill(x, 1, 1, given);
        Check.fill(x, 2, 2, given);
        for (int i = 0; i < given.length; i++) {
            said.due(given[i] + " as a byte", x.element(0, i), bytes[i]);
            said.due(given[i] + " as a short", x.element(1, i), shorts[i]);
            said.due(given[i] + " as an int", x.element(2, i), given[i]);
        }
    }

    private void refusalsOfShelves() {
        said.that("Their REFUSALS: -11 nothing is held where something is wanted");
        HoldsOnceDenied x = new HoldsOnceDenied();
        said.due("a text", x.school(7), -11);
        said.due("one who comes", x.comes(7), -11);
        said.due("denials", x.run(7, 0), -11);
        said.due("what is judged", x.judge(7), -11);
        said.due("a place", x.put(7, 0, 0), -11);
        said.due("what is copied", x.copy(7, 0, 7, 0, 0), -11);
        said.due("a price", x.price(7), -11);
        said.due("a failure", x.toss(7), -11);
        said.that("-12 it is of another kind");
        x.keep(7, 1, 0, 5);
        x.row(6, 0, 2);
        said.due("a denier as a text", x.school(7), -12);
        said.due("a row comes", x.comes(6), -12);
        said.due("a denier as denials", x.run(7, 0), -12);
        said.due("a denier judged", x.judge(7), -12);
        said.due("a denier's place", x.put(7, 0, 0), -12);
        said.due("a denier copied", x.copy(7, 0, 6, 0, 0), -12);
        said.due("copied to a denier", x.copy(6, 0, 7, 0, 0), -12);
        said.due("a row's price", x.price(6), -12);
        said.due("a row's failure", x.toss(6), -12);
        for (int sort = 1; sort < 3; sort++) {
            x.row(5, sort, 2);
            said.due("sort " + sort + " as a text", x.school(5), -12);
            said.due("sort " + sort + " as denials", x.run(5, 0), -12);
            said.due("sort " + sort + " copied to bytes", x.copy(5, 0, 6, 0, 0), -12);
        }
    }

    private void placesAndFailures() {
        said.that("-13 a place that isn't there (a number or a size that isn't as told, too)");
        HoldsOnceDenied x = new HoldsOnceDenied();
        x.row(0, 0, 3);
        said.due("behind the last", x.put(0, 3, 1), -13);
        said.due("ahead of the first", x.put(0, -1, 1), -13);
        said.due("a size below 0", x.copy(0, 0, 0, 0, -1), -13);
        said.due("a size too large", x.copy(0, 0, 0, 0, 4), -13);
        said.due("an odd size of denials", x.run(0, 0), -13);
        x.row(0, 0, 2);
        said.due("a number of nobody", x.run(0, 0), -13);
        said.that("-14 a size below 0");
        said.due("by 1", x.row(0, 0, -1), -14);
        said.due("by most", x.row(0, 0, Integer.MIN_VALUE), -14);
        said.due("0 is not below 0", x.row(0, 0, 0), 0);
        said.that("-15 a FAILURE that is none.");
        for (int kind = 0; kind < 8; kind++) {
            x.keep(0, 1, kind, 0);
            said.due("figure 0 of kind " + kind, x.toss(0), -15);
            x.keep(0, 1, kind, 1);
            said.holds("figure 1 of kind " + kind, (x.toss(0) == -15) == (kind == 3));
        }
    }

    private static HoldsOnceDenied denials(int... denials) {
        HoldsOnceDenied x = Check.schoolOf("s;s;d00;d30;");
        Check.fill(x, 1, 0, denials);
        return x;
    }

    private void rowsOfDenials() {
        said.that("A ROW of DENIALS is of bytes, by twos a DENIER, a SENTENCE");
        said.due("a denier ahead, a sentence behind", denials(0, 1, 1, 1, 1, 0, 1, 0).run(1, 0), 1);
        said.due("none at all", denials().run(1, 1), 0);
        said.due("bytes go below 0", denials(0, 1, 256, 257, 0, 0).run(1, 0), 2);
        said.that("12 DENIALS at most: -11, -12 (no ROW of bytes), -13 (not as told).");
        int[] deaf = {1, 0, 1, 1, 1, 0, 1, 1, 1, 0, 1, 1, 1, 0, 1, 1, 1, 0, 1, 1, 1, 0, 1, 1};
        said.due("twelve", denials(deaf).run(1, 1), 12);
        said.due("thirteen", denials(Arrays.copyOf(deaf, 26)).run(1, 1), -13);
        said.due("twelve and a half", denials(Arrays.copyOf(deaf, 25)).run(1, 1), -13);
        said.due("one half", denials(0).run(1, 1), -13);
        said.due("no denier 2", denials(0, 0, 2, 0).run(1, 1), -13);
        said.due("no denier below 0", denials(-1, 0).run(1, 1), -13);
        said.due("no sentence 2", denials(0, 0, 0, 2).run(1, 1), -13);
        said.due("no sentence below 0", denials(0, -1).run(1, 1), -13);
        said.due("nothing held", denials().run(2, 1), -11);
        HoldsOnceDenied x = denials();
        Check.fill(x, 1, 1, 0, 0);
        said.due("shorts", x.run(1, 1), -12);
        Check.fill(x, 1, 2, 0);
        said.due("ints, though of an odd size", x.run(1, 1), -12);
        x.keep(1, 1, 0, 0);
        said.due("a denier", x.run(1, 1), -12);
    }

    private static int read(String text) {
        return Check.read(new HoldsOnceDenied(), text);
    }

    private void statements() {
        said.that("A SCHOOL is read from bytes: STATEMENTS, each with ; behind");
        said.due("one", read("s;"), 1);
        said.due("a hundred bytes", read("s;d30;" + "x00;".repeat(23) + "s;"), 26);
        said.due("no ; behind the last", read("s;s"), -1003);
        said.due("; twice", read("s;;"), -1002);
        said.that("s: a SENTENCE more");
        said.due("a sentence more", Check.schoolOf("s;s;").count(0), 2);
        said.that("n, two unlike SENTENCES (digits): the first NEEDS the second");
        HoldsOnceDenied x = Check.schoolOf("s;s;s;n20;n21;");
        said.due("the first needs", x.sentence(2, 0), 0b011);
        said.due("the second does not", x.sentence(0, 0), 0);
        said.due("two alike", read("s;n00;"), -2002);
        said.due("told again", Check.read(x, "n20;n20;"), 2);
        said.due("a ring", Check.read(x, "n02;"), 1);
        said.due("of a true one", Check.read(x, "t1;n10;n01;"), 3);
        said.that("t, a SENTENCE (a digit): it is the founder's, TRUE (that is not yet)");
        said.due("true", x.sentence(1, 1), 1);
        said.due("the founder's", x.sentence(1, 2), -4);
        said.due("whatever it needs", Check.read(x, "t2;"), 1);
        said.due("once more", Check.read(x, "t2;"), -2000);
        said.due("no denier learns it", Check.schoolOf("s;d00;t0;").denier(0, 2), 0);
        HoldsOnceDenied fell = Check.schoolOf("s;d00;x00;");
        fell.die(0);
        said.due("what fell is not true", Check.read(fell, "t0;"), 1);
        said.due("it is the founder's then", fell.sentence(0, 2), -4);
        said.due("from that day on", fell.sentence(0, 3), 1);
        said.that("d, KIND, FIGURE (digits): a DENIER more");
        HoldsOnceDenied y = Check.schoolOf("d74;d00;");
        said.due("how many", y.count(1), 2);
        said.due("kind", y.denier(0, 0), 7);
        said.due("figure", y.denier(0, 1), 4);
        said.that("k, a DENIER, a SENTENCE (digits): he KNOWS it");
        HoldsOnceDenied z = Check.schoolOf("s;s;s;d00;d00;k12;");
        said.due("he", z.denier(1, 2), 0b100);
        said.due("nobody else", z.denier(0, 2), 0);
        said.due("what he knows may be told again", Check.read(z, "k12;k12;"), 2);
        z.die(0);
        said.due("of a dead one", Check.read(z, "k00;"), 1);
        said.due("a dead one knows it", z.denier(0, 2), 0b001);
    }

    private void denialsInTexts() {
        said.that("x, a DENIER, a SENTENCE (digits): he DENIES it.");
        HoldsOnceDenied x = Check.schoolOf("s;s;n10;d30;d00;x11;x01;x10;x11;");
        said.due("days", x.count(2), 4);
        said.due("silenced at the first", x.sentence(0, 3), 3);
        said.due("not silenced once, silenced then", x.sentence(1, 3), 4);
        said.due("by the second", x.sentence(1, 2), 1);
        said.due("he knows both", x.denier(1, 2), 0b11);
        said.that("At least one STATEMENT.");
        said.due("none", read(""), -1000);
        said.due("one", read("d00;"), 1);
    }

    private void faultsOfTheFirstKind() {
        said.that("FAULT: kind 1 the place of the first byte with which no SCHOOL can go on (the size, if it ends too early)");
        firstKindAt(0, "z", ";", "0", "S;", " s;", "a;", "u0;", "e00;", "y00;", "m00;", "o00;", "r;");
        firstKindAt(1, "s", "sz", "s0;", "n", "n;", "nn", "t", "t;", "ts;", "d", "d;", "k", "k;", "x", "x;", "n:0;", "n/0;");
        firstKindAt(2, "n0", "n0;", "n0n;", "t0", "t00;", "d0", "d0;", "k0", "k0;", "k0:;", "k0/;", "x0", "x0;", "x0s;", "t0:");
        firstKindAt(3, "n01", "n012;", "d00", "d000;", "k00", "k00 ;", "x00", "x00:", "n00n");
        firstKindAt(5, "s;t0;;", "s;t0;z;", "n00;t");
        said.due("it ends too early at a hundred", read("s;" + "d00;".repeat(24) + "t0"), -1100);
        said.due("the last of a hundred", read("s;" + "d00;".repeat(24) + "tt"), -1099);
        HoldsOnceDenied x = new HoldsOnceDenied();
        Check.fill(x, 0, 0, 's', ';', -13, ';');
        said.due("a byte below 0", x.school(0), -1002);
        Check.fill(x, 0, 0, 's' + 256, ';' - 256);
        said.due("bytes by their lowest bits", x.school(0), 1);
        x.row(0, 0, 1);
        said.due("a byte that is 0", x.school(0), -1000);
    }

    private void firstKindAt(int place, String... texts) {
        for (String text : texts) {
            said.due("'" + text + "'", read(text), -1000 - place);
            said.due("behind another: '" + text + "'", read("s;" + text), -1002 - place);
        }
    }

    private void faultsOfTheSecondKind() {
        said.that("else kind 2 the place of the letter of the first STATEMENT that isn't as told");
        said.due("the first", read("n00;"), -2000);
        said.due("the second", read("s;n00;"), -2002);
        said.due("the first of two", read("s;n00;t9;"), -2002);
        said.due("far behind", read("s;s;d30;" + "x00;".repeat(22) + "t9;"), -2096);
        said.that("one twice at n");
        said.due("n00", read("s;s;n00;"), -2004);
        said.due("n11", read("s;s;n11;"), -2004);
        said.due("n88", read("s;".repeat(9) + "n88;"), -2018);
        said.due("n01 twice is one need told twice", read("s;s;n01;n01;"), 4);
        said.that("TRUE already at t");
        said.due("the founder's", read("s;t0;t0;"), -2005);
        said.due("a denier's", read("s;d00;x00;t0;"), -2010);
        said.due("not silenced, so not true", read("s;d30;x00;t0;"), 4);
        said.that("who MAY not DENY it at x");
        String[] texts = {"s;t0;d00;x00;", "s;d00;k00;x00;", "s;t0;d10;x00;", "s;s;n10;d20;x01;", "s;d40;x00;", "s;s;d50;x01;",
            "s;s;n10;d69;x01;", "s;d71;x00;", "s;s;n10;d71;x01;"};
        int[] places = {9, 10, 9, 12, 6, 8, 12, 6, 12};
        for (int i = 0; i < texts.length; i++) {
            said.due("'" + texts[i] + "'", read(texts[i]), -2000 - places[i]);
        }
        said.due("a deaf one may", read("s;t0;d30;k00;x00;"), 5);
        said.due("an old one may", read("s;s;n10;d61;x01;"), 5);
        HoldsOnceDenied x = Check.schoolOf("s;d30;");
        x.die(0);
        said.due("a dead one may not", Check.read(x, "s;x00;"), -2002);
    }

    private void numbersAndWhatIsThere() {
        said.that("(a number out of range");
        said.due("kind 8", read("d80;"), -2000);
        said.due("kind 9", read("d90;"), -2000);
        said.due("kind 7, figure 9", read("d79;"), 1);
        String nine = "s;".repeat(9);
        String six = "d30;".repeat(6);
        said.due("no sentence is 9 at t", read(nine + "t9;"), -2018);
        said.due("no sentence is 9 at n", read(nine + "n09;"), -2018);
        said.due("no sentence is 9 ahead at n", read(nine + "n90;"), -2018);
        said.due("no sentence is 9 twice at n", read(nine + "n99;"), -2018);
        said.due("no sentence is 9 at k", read(nine + "d30;k09;"), -2022);
        said.due("no sentence is 9 at x", read(nine + "d30;x09;"), -2022);
        said.due("no denier is 6 at k", read("s;" + six + "k60;"), -2026);
        said.due("no denier is 9 at x", read("s;" + six + "x90;"), -2026);
        said.due("sentence 8, denier 5", read(nine + six + "t8;n87;k58;x58;"), 19);
        said.that("what isn't there");
        said.due("a need of nothing", read("n01;"), -2000);
        said.due("a need not there", read("s;n01;"), -2002);
        said.due("one that needs, not there", read("s;n10;"), -2002);
        said.due("a need not there, the next one", read("s;s;s;n03;"), -2006);
        said.due("one that needs, not there, the next one", read("s;s;s;n30;"), -2006);
        said.due("a truth not there", read("s;t1;"), -2002);
        said.due("who knows, not there", read("s;k00;"), -2002);
        said.due("what he knows, not there", read("d00;k00;"), -2004);
        said.due("the next that he knows, not there", read("s;d00;k01;"), -2006);
        said.due("the next who knows, not there", read("s;d00;k10;"), -2006);
        said.due("who denies, not there", read("s;x00;"), -2002);
        said.due("the next who denies, not there", read("s;d30;x10;"), -2006);
        said.due("what he denies, not there", read("s;d30;x01;"), -2006);
        said.due("what comes behind is not there yet", read("s;t1;s;"), -2002);
    }

    private void noRoomAndTheFault() {
        said.that("no room)");
        said.due("a tenth sentence", read("s;".repeat(10)), -2018);
        said.due("a seventh denier", read("d00;".repeat(7)), -2024);
        said.due("nine and six", read("s;".repeat(9) + "d00;".repeat(6)), 15);
        HoldsOnceDenied x = Check.schoolOf("d00;".repeat(6));
        x.die(0);
        said.due("the dead keep their places", Check.read(x, "s;d00;"), -2002);
        said.that(": -1000 times the kind less the place.");
        said.due("kind 1, place 0", read("z"), -1000);
        said.due("kind 1, place 99", read("s;" + "d00;".repeat(24) + "tt"), -1099);
        said.due("kind 2, place 0", read("t0;"), -2000);
        said.due("kind 2, place 96", read("s;s;d30;" + "x00;".repeat(22) + "t9;"), -2096);
    }

    private void allOrNothing() {
        said.that("Without FAULT all of it comes; with one nothing.");
        HoldsOnceDenied x = Check.schoolOf("s;s;n10;d00;k01;x00;t1;");
        said.due("sentences", x.count(0), 2);
        said.due("deniers", x.count(1), 1);
        said.due("true ones", x.count(3), 2);
        said.due("needs", x.sentence(1, 0), 1);
        said.due("known", x.denier(0, 2), 0b11);
        faultUndoes("s;s;n42;n01;t2;d00;k50;k51;x54;t9;", -2031);
        faultUndoes("s;s;n42;n01;t2;d00;k50;k51;x54;t", -1032);
        faultUndoes("t2;d00;k52;d00;", -2011);
        faultUndoes("s;t2;z", -1005);
    }

    /** Nothing of a faulty text comes: all is as where it is not read. */
    private void faultUndoes(String text, int fault) {
        HoldsOnceDenied x = Whole.rich();
        said.due("'" + text + "'", Check.read(x, text), fault);
        HoldsOnceDenied y = Whole.rich();
        Check.fill(y, 0, 0, text.chars().toArray());
        said.holds("nothing of '" + text + "' came", Whole.seen(x).equals(Whole.seen(y)));
    }

    private void saidOnceMore() {
        said.that("Said once more: \"a and b\" of two numbers is their sum");
        said.due("a denier's steps, 1 and 1", Check.schoolOf("s;s;n10;d00;").steps(0, 1), 2);
        said.due("a friend's price, 3 times (2 and 1)", Check.schoolOf("d42;").denier(0, 4), 9);
        said.that("kind 1 (of any place) goes ahead of kind 2");
        said.due("kind 1 behind kind 2", read("t0;z"), -1003);
        said.due("kind 1 far behind kind 2", read("n00;" + "s;".repeat(47) + "s"), -1099);
        said.due("kind 1 within what isn't as told", read("n99"), -1003);
        said.that("STATEMENTS are tried one behind the other, each on what those ahead of it made, "
            + "and the first that can't be done so is told.");
        said.due("what those ahead made", read("s;t0;d00;s;n10;x01;"), 6);
        said.due("the wise may by what those ahead made", read("s;s;n10;d20;x00;x01;"), 6);
        said.due("not ahead of it", read("s;s;n10;d20;x01;x00;"), -2012);
        said.due("a true one by those ahead", read("s;d00;x00;x00;"), -2010);
        said.due("the first that can't", read("s;t1;t0;t0;"), -2002);
        said.that("The ROW that is read, and what is taken from a SHELF, stay there");
        HoldsOnceDenied x = Check.schoolOf("s;s;d30;");
        said.due("the text", x.school(0), 3);
        said.due("the text once more", x.school(0), 3);
        Check.fill(x, 1, 0, 0, 1);
        said.due("denials", x.run(1, 1) + x.run(1, 1), 2);
        said.due("what is judged", x.judge(1) + x.judge(1), 0);
        x.keep(2, 1, 4, 3);
        x.comes(2);
        said.due("who came stays", x.comes(2), 4);
        said.due("his price", x.price(2), 12);
        x.copy(1, 0, 1, 1, 1);
        Check.fill(x, 3, 0, 7, 8);
        x.copy(3, 0, 1, 0, 2);
        said.due("what is copied stays", x.element(3, 0) * 10 + x.element(3, 1), 78);
        said.that("when THE IMAGE is RESTORED, SHELVES stay as they are.");
        x.image();
        x.row(1, 0, 1);
        x.keep(3, 0, 0, 0);
        x.keep(4, 1, 0, 3);
        x.restore();
        said.due("a shorter row", x.put(1, 1, 0), -13);
        said.due("nothing", x.price(3), -11);
        said.due("a denier", x.price(4), 3);
        said.due("as they were", x.price(2), 12);
    }

    /** The interface's words stand in the source, ahead of the calls that they are told for, in the document's order. */
    private void headings() throws IOException {
        String source = Files.readString(Path.of("src/main/java/HoldsOnceDenied.java"));
        String[][] parts = {{"schools", "school", "sentence", "denier", "comes", "learns", "deny", "die"},
            {"who may, who is silenced", "may", "silences", "steps", "falls", "lonely"},
            {"what can be had", "ever", "soonest", "first", "easiest", "all"},
            {"at once, to hire, who it was", "atOnce", "hire", "canHave"},
            {"told disputes", "run", "seeded", "judge"},
            {"the image, what is told", "image", "restore", "count"},
            {"shelves", "keep", "row", "put", "element", "copy", "price", "toss"}};
        int from = 0;
        for (String[] part : parts) {
            StringBuilder calls = new StringBuilder();
            for (int i = 1; i < part.length; i++) {
                calls.append(i > 1 ? ", " : "").append('`').append(part[i]).append('`');
            }
            said.that("Ahead of the calls " + calls + " the interface says: ---- " + part[0] + ".");
            from = source.indexOf("    // ---- " + part[0] + "\n", from);
            said.holds("it says so", from >= 0);
            for (int i = 1; i < part.length; i++) {
                from = source.indexOf(" " + part[i] + "(", Math.max(from, 0));
                said.holds(part[i] + " comes behind", from >= 0);
                said.holds(part[i] + " is public", source.lastIndexOf("\n    public ", from) == source.lastIndexOf('\n', from));
            }
        }
    }
}
