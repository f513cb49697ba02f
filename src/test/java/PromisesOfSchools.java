/** Promises 1 to 13, each by its own words, on the rich object of Whole wherever nothing else is told. */
final class PromisesOfSchools {
    private final Said said;

    PromisesOfSchools(Said said) {
        this.said = said;
    }

    void look() {
        aNewObject();
        school();
        sentence();
        denier();
        comes();
        learns();
        deny();
        die();
        may();
        silences();
        steps();
        falls();
        lonely();
    }

    private void aNewObject() {
        said.at("Promise 1");
        said.that("No SENTENCES, no DENIERS.");
        HoldsOnceDenied x = new HoldsOnceDenied();
        said.due("no sentences", x.count(0), 0);
        said.due("no sentence 0", x.sentence(0, 0), -1);
        said.due("no deniers", x.count(1), 0);
        said.due("no denier 0", x.denier(0, 0), -1);
        said.due("day 0", x.count(2), 0);
        said.due("none true", x.count(3), 0);
        said.due("nobody alive", x.count(4), 0);
        said.due("no image", x.restore(), -3);
        for (int d = 0; d < 8; d++) {
            said.due("nothing on shelf " + d, x.price(d), -11);
        }
        HoldsOnceDenied other = Check.schoolOf("s;d00;");
        other.image();
        said.due("another object has nothing to do with it", x.count(0) + x.count(1) + x.restore() + x.price(0), -14);
    }

    private void school() {
        said.at("Promise 2");
        said.that("The text in SHELF d: how many STATEMENTS; the FAULT.");
        HoldsOnceDenied x = new HoldsOnceDenied();
        for (int d = 0; d < 8; d++) {
            Check.fill(x, d, 0, 's', ';', 'd', '0', '0' + d, ';');
            said.due("on shelf " + d, x.school(d), d < 6 ? 2 : -2002);
        }
        said.due("six came with six", x.count(0) * 10 + x.count(1), 66);
        said.due("the fifth's figure", x.denier(5, 1), 5);
        Whole.unchanged(said, "kind 2 on a school", -2000, y -> y.school(0));
        Whole.unchanged(said, "kind 1", -1000, y -> y.school(1));
        Whole.unchanged(said, "kind 1, no bytes", -1000, y -> y.school(6));
        said.that("-1, -11, -12 (no ROW of bytes).");
        Whole.refusesOutside(said, "shelf", 8, (y, d) -> y.school(d));
        Whole.unchanged(said, "nothing", -11, y -> y.school(7));
        Whole.unchanged(said, "a denier", -12, y -> y.school(4));
        Whole.unchanged(said, "shorts", -12, y -> y.school(2));
        Whole.unchanged(said, "ints", -12, y -> y.school(3));
        Check.fill(x, 0, 1, 's', ';');
        said.due("shorts that would be a text", x.school(0), -12);
        Check.fill(x, 0, 2, 's', ';');
        said.due("ints that would be a text", x.school(0), -12);
        x.row(0, 1, 0);
        said.due("no shorts", x.school(0), -12);
    }

    private void sentence() {
        said.at("Promise 3");
        said.that("Of a SENTENCE: what it NEEDS (what 0, bits), 1 TRUE (1)");
        Whole.unchanged(said, "needs", 0b001, x -> x.sentence(1, 0));
        Whole.unchanged(said, "no needs", 0, x -> x.sentence(0, 0));
        Whole.unchanged(said, "a denier's", 1, x -> x.sentence(1, 1));
        Whole.unchanged(said, "the founder's", 1, x -> x.sentence(3, 1));
        Whole.unchanged(said, "not true", 0, x -> x.sentence(2, 1));
        said.that("its DENIER (2; -4 none, the founder's, not TRUE)");
        Whole.unchanged(said, "denier 0's", 0, x -> x.sentence(1, 2));
        Whole.unchanged(said, "the founder's", -4, x -> x.sentence(3, 2));
        Whole.unchanged(said, "not true", -4, x -> x.sentence(2, 2));
        HoldsOnceDenied fell = Whole.rich();
        fell.die(0);
        said.due("fallen", fell.sentence(1, 2), -4);
        said.due("denier 5's", Check.schoolOf("s;d30;d30;d30;d30;d30;d00;x50;").sentence(0, 2), 5);
        said.that("DAY (3; -4 not TRUE; the founder's: when it was told).");
        Whole.unchanged(said, "day 1", 1, x -> x.sentence(0, 3));
        Whole.unchanged(said, "day 2", 2, x -> x.sentence(1, 3));
        Whole.unchanged(said, "not true", -4, x -> x.sentence(2, 3));
        Whole.unchanged(said, "the founder's on day 1", 1, x -> x.sentence(3, 3));
        said.due("fallen", fell.sentence(1, 3), -4);
        said.due("the founder's on day 0", Check.schoolOf("s;t0;").sentence(0, 3), 0);
        said.due("the founder's told later in one text", Check.schoolOf("s;s;d00;x00;t1;").sentence(1, 3), 1);
        said.that("-1.");
        Whole.refusesOutside(said, "sentence", 4, (x, s) -> x.sentence(s, 0));
        Whole.refusesOutside(said, "what", 4, (x, what) -> x.sentence(0, what));
        said.due("a sentence that is not there yet", Check.schoolOf("d00;").sentence(0, 2), -1);
    }

    private void denier() {
        said.at("Promise 4");
        said.that("Of a DENIER: KIND (what 0), FIGURE (1), KNOWS (2, bits), 1 alive (3), PRICE (4).");
        Whole.unchanged(said, "kind", 6, x -> x.denier(4, 0));
        Whole.unchanged(said, "figure", 5, x -> x.denier(1, 1));
        Whole.unchanged(said, "knows by a text and by denying", 0b111, x -> x.denier(0, 2));
        Whole.unchanged(said, "knows by a text", 0b1000, x -> x.denier(1, 2));
        Whole.unchanged(said, "knows nothing", 0, x -> x.denier(2, 2));
        Whole.unchanged(said, "alive", 1, x -> x.denier(3, 3));
        Whole.unchanged(said, "dead", 0, x -> x.denier(4, 3));
        Whole.unchanged(said, "price", 5, x -> x.denier(4, 4));
        Whole.unchanged(said, "price of another", 3, x -> x.denier(2, 4));
        said.that("-1.");
        Whole.refusesOutside(said, "denier", 5, (x, i) -> x.denier(i, 0));
        Whole.refusesOutside(said, "what", 5, (x, what) -> x.denier(0, what));
        said.due("denier 5 of six", Check.schoolOf("d00;".repeat(6)).denier(5, 3), 1);
        said.due("denier 6 of six", Check.schoolOf("d00;".repeat(6)).denier(6, 3), -1);
    }

    private void comes() {
        said.at("Promise 5");
        said.that("The DENIER on SHELF d comes as one more: his number.");
        HoldsOnceDenied x = Whole.rich();
        said.due("the sixth", x.comes(4), 5);
        said.due("kind", x.denier(5, 0), 6);
        said.due("figure", x.denier(5, 1), 5);
        said.due("knows nothing", x.denier(5, 2), 0);
        said.due("alive", x.denier(5, 3), 1);
        said.due("price", x.denier(5, 4), 6);
        said.due("one more", x.count(1), 6);
        said.due("he stays on the shelf, too", x.price(4), 6);
        x.keep(4, 1, 0, 0);
        said.due("another on the shelf does not change him", x.denier(5, 0), 6);
        HoldsOnceDenied y = new HoldsOnceDenied();
        for (int i = 0; i < 6; i++) {
            y.keep(7 - i, 1, i, 9 - i);
            said.due("the first are numbered from 0 on", y.comes(7 - i), i);
            said.due("each of his kind", y.denier(i, 0), i);
        }
        said.that("-1, -11, -12 (a ROW), -2.");
        Whole.refusesOutside(said, "shelf", 8, (z, d) -> z.comes(d));
        Whole.unchanged(said, "nothing", -11, z -> z.comes(7));
        for (int d : new int[] {0, 1, 2, 3, 6}) {
            Whole.unchanged(said, "a row on " + d, -12, z -> z.comes(d));
        }
        said.due("no room", y.comes(7), -2);
        said.due("six still", y.count(1), 6);
        said.due("the last as he was", y.denier(5, 0), 5);
        said.due("no shelf ahead of no room", y.comes(8), -1);
        said.due("no shelf below ahead of no room", y.comes(-1), -1);
        said.due("nothing ahead of no room", y.comes(0), -11);
        y.row(0, 0, 1);
        said.due("a row ahead of no room", y.comes(0), -12);
        y.die(0);
        said.due("the dead take room", y.comes(7), -2);
    }

    private void learns() {
        said.at("Promise 6");
        said.that("He KNOWS a SENTENCE: 1 if he did not, 0.");
        HoldsOnceDenied x = Whole.rich();
        said.due("he did not", x.learns(2, 3), 1);
        said.due("he knows it", x.denier(2, 2), 0b1000);
        said.due("he did", x.learns(2, 3), 0);
        said.due("he knows it still", x.denier(2, 2), 0b1000);
        said.due("he did by denying", x.learns(0, 0), 0);
        said.due("he did by a text", x.learns(1, 3), 0);
        said.due("one more", x.learns(2, 0), 1);
        said.due("both", x.denier(2, 2), 0b1001);
        said.due("nobody else", x.denier(3, 2), 0);
        said.due("a deaf one", x.learns(3, 1), 1);
        said.due("a dead one", x.learns(4, 1), 1);
        said.due("a dead one did", x.learns(4, 1), 0);
        said.due("nothing becomes true by it, and no day goes by", x.count(3) * 10 + x.count(2), 33);
        said.due("the last sentence of nine", Check.schoolOf("s;".repeat(9) + "d00;").learns(0, 8), 1);
        said.that("-1.");
        Whole.refusesOutside(said, "denier", 5, (y, i) -> y.learns(i, 3));
        Whole.refusesOutside(said, "sentence", 4, (y, s) -> y.learns(2, s));
    }

    private void deny() {
        said.at("Promise 7");
        said.that("He DENIES it: 1 SILENCED, 0 not.");
        HoldsOnceDenied x = Whole.rich();
        said.due("silenced", x.deny(1, 2), 1);
        said.due("true", x.sentence(2, 1), 1);
        said.due("his", x.sentence(2, 2), 1);
        said.due("from the new day on", x.sentence(2, 3), 4);
        said.due("he knows it, too", x.denier(1, 2), 0b1100);
        said.due("a deaf one is not", x.deny(3, 2), 0);
        said.due("a day for that", x.count(2), 5);
        said.due("it is the first's still", x.sentence(2, 2), 1);
        HoldsOnceDenied y = Whole.rich();
        said.due("a boy on an odd day is not", y.deny(2, 2), 0);
        said.due("not true", y.sentence(2, 1), 0);
        said.due("a boy on an even day is", y.deny(2, 2), 1);
        said.that("-1, -3 he MAY not.");
        Whole.refusesOutside(said, "denier", 5, (z, i) -> z.deny(i, 2));
        Whole.refusesOutside(said, "sentence", 4, (z, s) -> z.deny(1, s));
        Whole.refusesOutside(said, "sentence, by a deaf one,", 4, (z, s) -> z.deny(3, s));
        Whole.unchanged(said, "it is true", -3, z -> z.deny(1, 0));
        Whole.unchanged(said, "he knows it", -3, z -> z.deny(0, 2));
        Whole.unchanged(said, "he is dead", -3, z -> z.deny(4, 2));
        Whole.unchanged(said, "no sentence ahead of a dead one", -1, z -> z.deny(4, 4));
        String[] mayNot = {"s;t0;d00;", "s;t0;d10;", "s;s;s;n01;n12;d20;", "s;d40;", "s;t0;d59;", "s;s;n01;d61;", "s;d79;"};
        for (String text : mayNot) {
            HoldsOnceDenied z = Check.schoolOf(text);
            said.due("'" + text + "'", z.deny(0, 0), -3);
            said.due("no day for that", z.count(2), 0);
        }
        HoldsOnceDenied deaf = Check.schoolOf("s;d30;");
        deaf.die(0);
        said.due("a deaf one that is dead", deaf.deny(0, 0), -3);
    }

    private void die() {
        said.at("Promise 8");
        said.that("He DIES: how many SENTENCES fall.");
        HoldsOnceDenied x = Whole.rich();
        said.due("what needs what is not true stays", x.die(0), 2);
        said.due("dead", x.denier(0, 3), 0);
        said.due("one is true", x.count(3), 1);
        said.due("the founder's", x.sentence(3, 1), 1);
        said.due("alive", x.count(4), 3);
        said.due("day as it was", x.count(2), 3);
        said.due("knows as he did", x.denier(0, 2), 0b111);
        HoldsOnceDenied y = Whole.rich();
        y.deny(1, 2);
        said.due("all fall", y.die(0), 4);
        said.due("none is left to fall", y.die(1), 0);
        said.due("a deaf one", y.die(3), 0);
        said.due("all nine", Check.schoolOf("s;".repeat(9) + "n01;n12;n23;n34;n45;n56;n67;n78;d00;x08;t7;t6;t5;t4;t3;t2;t1;t0;").die(0), 9);
        said.that("-1, -3 he is dead.");
        Whole.refusesOutside(said, "denier", 5, (z, i) -> z.die(i));
        Whole.unchanged(said, "dead", -3, z -> z.die(4));
        said.due("dead just now", y.die(1), -3);
    }

    private void may() {
        said.at("Promise 9");
        said.that("SENTENCES (bits) that he MAY DENY now.");
        int[] due = {0, 0b0100, 0b0100, 0b1111, 0};
        for (int i = 0; i < 5; i++) {
            int denier = i;
            Whole.unchanged(said, "denier " + i, due[i], x -> x.may(denier));
        }
        HoldsOnceDenied x = Whole.rich();
        x.deny(1, 2);
        said.due("nothing more, now that it is true", x.may(1), 0);
        x.die(0);
        said.due("all again, now that all fell", x.may(1), 0b1111);
        said.due("all of nine", Check.schoolOf("s;".repeat(9) + "d00;").may(0), 511);
        said.that("-1.");
        Whole.refusesOutside(said, "denier", 5, (y, i) -> y.may(i));
    }

    private void silences() {
        said.at("Promise 10");
        said.that("SILENCES (bits).");
        int[] due = {0, 0b0100, 0, 0, 0};
        for (int i = 0; i < 5; i++) {
            int denier = i;
            Whole.unchanged(said, "denier " + i + " on an odd day", due[i], x -> x.silences(denier));
        }
        HoldsOnceDenied x = Whole.rich();
        x.deny(3, 0);
        said.due("the boy on an even day", x.silences(2), 0b0100);
        said.due("the deaf one on an even day", x.silences(3), 0);
        x.die(0);
        said.due("the boy, now that its need fell", x.silences(2), 0);
        said.due("the fool, now that both fell", x.silences(1), 0b0001);
        said.that("-1.");
        Whole.refusesOutside(said, "denier", 5, (y, i) -> y.silences(i));
    }

    private void steps() {
        said.at("Promise 11");
        said.that("STEPS.");
        int[] due = {2, 4, 6, 4, 5};
        for (int i = 0; i < 5; i++) {
            int denier = i;
            Whole.unchanged(said, "denier " + i, due[i], x -> x.steps(denier, 2));
        }
        Whole.unchanged(said, "what he may not deny", 1, x -> x.steps(0, 0));
        HoldsOnceDenied x = Check.schoolOf("s;s;s;n20;d00;");
        said.due("one need", x.steps(0, 2), 2);
        Check.read(x, "n21;");
        said.due("one need more", x.steps(0, 2), 3);
        Check.read(x, "n21;");
        said.due("the need told again", x.steps(0, 2), 3);
        x.learns(0, 1);
        said.due("known needs count", x.steps(0, 2), 3);
        Check.read(x, "t0;");
        said.due("true needs count", x.steps(0, 2), 3);
        said.that("-1.");
        Whole.refusesOutside(said, "denier", 5, (y, i) -> y.steps(i, 0));
        Whole.refusesOutside(said, "sentence", 4, (y, s) -> y.steps(0, s));
    }

    private void falls() {
        said.at("Promise 12");
        said.that("FALLS (bits).");
        int[] due = {0b0011, 0, 0, 0, 0};
        for (int i = 0; i < 5; i++) {
            int denier = i;
            Whole.unchanged(said, "denier " + i, due[i], x -> x.falls(denier));
        }
        HoldsOnceDenied x = Whole.rich();
        x.deny(1, 2);
        said.due("all, the founder's, too", x.falls(0), 0b1111);
        said.due("his, and the founder's", x.falls(1), 0b1100);
        x.die(0);
        said.due("none of a dead one's", x.falls(0), 0);
        said.due("none, for they fell", x.falls(1), 0);
        said.that("-1.");
        Whole.refusesOutside(said, "denier", 5, (y, i) -> y.falls(i));
    }

    private void lonely() {
        said.at("Promise 13");
        said.that("LONELY (bits).");
        Whole.unchanged(said, "none", 0, x -> x.lonely());
        HoldsOnceDenied x = Whole.rich();
        x.die(3);
        x.die(2);
        x.die(1);
        said.due("he who is left knows it", x.lonely(), 0b0100);
        x.die(0);
        said.due("nobody is left", x.lonely(), 0b0111);
    }
}
