/** Terms, first part: sentences, deniers, who may, who is silenced, steps, denying, dying, prices. */
final class TermsOfDeniers {
    private final Said said;

    TermsOfDeniers(Said said) {
        this.said = said;
    }

    void look() {
        said.at("Terms");
        sentencesAsTheyCome();
        needs();
        truth();
        deniersAsTheyCome();
        kinds();
        figures();
        knowledge();
        whoMay();
        wiseMay();
        friendsAndHiredOnesMay();
        oldOnesAndBoysMay();
        silenced();
        neverSilenced();
        steps();
        denying();
        dying();
        prices();
    }

    private void sentencesAsTheyCome() {
        said.that("SENTENCES 0 .. 8 as they come (9 at most)");
        HoldsOnceDenied x = new HoldsOnceDenied();
        for (int n = 0; n < 9; n++) {
            said.due("sentence " + n + " ahead of its coming", x.sentence(n, 1), -1);
            said.due("one more", Check.read(x, "s;t" + n + ";"), 2);
            said.due("the new one is " + n, x.sentence(n, 1), 1);
            said.due("how many", x.count(0), n + 1);
        }
        said.due("a tenth", Check.read(x, "s;"), -2000);
        said.due("nine still", x.count(0), 9);
        said.due("no sentence 9", x.sentence(9, 1), -1);
        said.due("no sentence below 0", x.sentence(-1, 1), -1);
        said.due("nine in one text", Check.read(new HoldsOnceDenied(), "s;".repeat(9)), 9);
        said.due("ten in one text", Check.read(new HoldsOnceDenied(), "s;".repeat(10)), -2018);
    }

    private void needs() {
        said.that("each of which may NEED others (none at first; not itself)");
        HoldsOnceDenied x = Check.schoolOf("s;".repeat(9));
        for (int s = 0; s < 9; s++) {
            said.due("none at first: " + s, x.sentence(s, 0), 0);
            said.due("not itself: " + s, Check.read(x, "n" + s + s + ";"), -2000);
        }
        Check.read(x, "n80;n81;n82;n83;n84;n85;n86;n87;n01;n02;n03;n04;n05;n06;n07;n08;");
        said.due("the last needs all others", x.sentence(8, 0), 0b011111111);
        said.due("the first needs all others", x.sentence(0, 0), 0b111111110);
        said.due("nobody else needs", x.sentence(4, 0), 0);
        said.due("not itself, though all others", Check.read(x, "n88;"), -2000);
    }

    private void truth() {
        said.that("A SENTENCE is TRUE, or not (at first)");
        HoldsOnceDenied x = Check.schoolOf("s;s;t1;");
        said.due("not at first", x.sentence(0, 1), 0);
        said.due("told true", x.sentence(1, 1), 1);
        said.that("a TRUE one has its DENIER (-4 it is the founder's), and the DAY on which it became so");
        HoldsOnceDenied y = Check.schoolOf("s;s;s;t0;d30;d00;x00;x11;t2;");
        said.due("the founder's", y.sentence(0, 2), -4);
        said.due("the founder's day", y.sentence(0, 3), 0);
        said.due("a denier's", y.sentence(1, 2), 1);
        said.due("his day", y.sentence(1, 3), 2);
        said.due("the founder's later", y.sentence(2, 2), -4);
        said.due("the founder's later day", y.sentence(2, 3), 2);
    }

    private void deniersAsTheyCome() {
        said.that("DENIERS 0 .. 5 as they come, alive at first");
        HoldsOnceDenied x = new HoldsOnceDenied();
        for (int i = 0; i < 6; i++) {
            said.due("denier " + i + " ahead of his coming", x.denier(i, 1), -1);
            said.due("one more", Check.read(x, "d0" + (9 - i) + ";"), 1);
            said.due("the new one is " + i, x.denier(i, 1), 9 - i);
            said.due("alive at first", x.denier(i, 3), 1);
            said.due("how many", x.count(1), i + 1);
        }
        said.due("a seventh", Check.read(x, "d00;"), -2000);
        x.keep(7, 1, 0, 0);
        said.due("a seventh from a shelf", x.comes(7), -2);
        said.due("six still", x.count(1), 6);
        said.due("no denier 6", x.denier(6, 1), -1);
        said.due("no denier below 0", x.denier(-1, 1), -1);
    }

    private void kinds() {
        said.that("of KINDS: 0 DENIER; 1 FOOL under DENIER; 2 WISE under DENIER; 3 DEAF under FOOL; 4 FRIEND under DENIER; "
            + "5 HIRED under FOOL; 6 OLD under WISE; 7 BOY under FRIEND");
        HoldsOnceDenied x = new HoldsOnceDenied();
        for (int kind = 0; kind < 8; kind++) {
            said.due("kind " + kind + " on a shelf", x.keep(0, 1, kind, 5), 0);
            HoldsOnceDenied y = Check.schoolOf("d" + kind + "5;");
            said.due("kind " + kind + " by a text", y.denier(0, 0), kind);
            Check.read(y, "s;s;s;n20;n21;t0;k01;");
            said.due("kind " + kind + " is silenced as the one above him, or deaf", y.deny(0, 2), kind == 3 ? 0 : 1);
        }
        said.due("no kind 8", x.keep(0, 1, 8, 5), -1);
        said.due("no kind below 0", x.keep(0, 1, -1, 5), -1);
        said.due("no kind 8 by a text", Check.read(x, "d85;"), -2000);
        said.due("no kind 9 by a text", Check.read(x, "d95;"), -2000);
        int[] failures = {5, 105, 5, -15, 5, 5, 206, 5};
        for (int kind = 0; kind < 8; kind++) {
            x.keep(0, 1, kind, 5);
            said.due("failure of kind " + kind, x.toss(0), failures[kind]);
        }
    }

    private void figures() {
        said.that("a FIGURE (0 .. 9)");
        HoldsOnceDenied x = new HoldsOnceDenied();
        for (int figure = 0; figure < 10; figure++) {
            said.due("figure " + figure + " by a text", Check.schoolOf("d0" + figure + ";").denier(0, 1), figure);
            said.due("figure " + figure, x.keep(0, 1, 2, figure), 0);
            said.due("price by figure " + figure, x.price(0), 3 + figure);
        }
        said.due("figure 10", x.keep(0, 1, 2, 10), -1);
        said.due("figure below 0", x.keep(0, 1, 2, -1), -1);
        said.due("hired with figure 9", x.hire(9, 1), 0);
        said.due("hired with figure 10", x.hire(10, 1), -1);
        said.due("hired with figure below 0", x.hire(-1, 1), -1);
    }

    private void knowledge() {
        said.that("each KNOWS some SENTENCES (none at first)");
        HoldsOnceDenied x = Check.schoolOf("s;".repeat(9) + "d00;d20;");
        said.due("none at first", x.denier(0, 2) + x.denier(1, 2), 0);
        for (int s = 0; s < 9; s++) {
            said.due("he learns " + s, x.learns(0, s), 1);
        }
        said.due("he knows all nine", x.denier(0, 2), 511);
        said.due("the other none", x.denier(1, 2), 0);
        x.keep(1, 1, 2, 0);
        x.comes(1);
        said.due("one from a shelf none at first", x.denier(2, 2), 0);
        said.that("DAY (0 at first)");
        said.due("day", new HoldsOnceDenied().count(2), 0);
        said.due("day of a school without a denial", x.count(2), 0);
    }

    private static int may(String text) {
        return Check.schoolOf(text).may(0);
    }

    private void whoMay() {
        said.that("Whether one who is alive MAY DENY a SENTENCE s:");
        for (int kind = 0; kind < 8; kind++) {
            HoldsOnceDenied x = Check.schoolOf("s;s;n10;t0;d" + kind + "9;");
            said.holds("kind " + kind + " alive", x.may(0) != 0);
            x.die(0);
            said.due("kind " + kind + " dead", x.may(0), 0);
        }
        said.that("DENIER if s is not TRUE, and he does not KNOW it");
        said.due("true ones he may not, known ones he may not", may("s;s;s;t0;d00;k01;"), 0b100);
        said.due("nor true and known ones", may("s;s;s;t1;d00;k01;"), 0b101);
        said.due("needs do not matter", may("s;s;s;n10;n20;n21;d00;"), 0b111);
        HoldsOnceDenied x = Check.schoolOf("s;s;n10;d00;d00;d10;x00;x11;");
        x.die(0);
        said.due("what fell he knows still", x.may(1), 0b01);
        said.that("FOOL if s is not TRUE");
        said.due("what he knows, too", may("s;s;s;t0;d10;k01;"), 0b110);
        said.due("a fool of what fell", x.may(2), 0b11);
        HoldsOnceDenied y = Check.schoolOf("s;d10;d00;x10;k00;");
        said.due("not what is true", y.may(0), 0);
        said.that("DEAF always");
        said.due("true, known, needing", may("s;s;s;t0;n21;d30;k00;k01;"), 0b111);
        said.due("nothing, where there is nothing", may("d30;"), 0);
        said.due("the last of nine", may("s;".repeat(9) + "d30;"), 511);
    }

    private void wiseMay() {
        said.that("WISE as a DENIER, and if he KNOWS all that s NEEDS, or it is TRUE (each of them)");
        String school = "s;s;s;s;t0;n20;n21;n32;d20;";
        said.due("one of two is true", may(school), 0b0010);
        said.due("one is true, one known", may(school + "k01;"), 0b0100);
        said.due("both are true", may(school + "t1;"), 0b0100);
        said.due("both are known, one is true", may(school + "k00;k01;"), 0b0100);
        said.due("known: not himself, but what needs it", may(school + "k02;"), 0b1010);
        said.due("both are known, none is true", may("s;s;s;n20;n21;d20;k00;k01;"), 0b100);
        said.due("one is known, none is true", may("s;s;s;n20;n21;d20;k01;"), 0b001);
        said.due("known by another", may("s;s;n10;d20;d20;k10;"), 0b01);
    }

    private void friendsAndHiredOnesMay() {
        said.that("FRIEND as a DENIER, and if s is not SENTENCE FIGURE");
        said.due("figure 0", may("s;s;s;d40;"), 0b110);
        said.due("figure 2", may("s;s;s;d42;"), 0b011);
        said.due("figure 3, not there", may("s;s;s;d43;"), 0b111);
        said.due("figure 3, there by now", may("s;s;s;d43;s;s;"), 0b10111);
        said.due("figure 8", may("s;".repeat(9) + "d48;"), 255);
        said.due("figure 9", may("s;".repeat(9) + "d49;"), 511);
        said.due("true and known as a denier", may("s;s;s;s;t0;d42;k01;"), 0b1000);
        said.that("HIRED as a FOOL, if s is no more than FIGURE");
        said.due("figure 0", may("s;s;s;d50;"), 0b001);
        said.due("figure 1", may("s;s;s;d51;"), 0b011);
        said.due("figure 2", may("s;s;s;d52;"), 0b111);
        said.due("figure 9", may("s;".repeat(9) + "d59;"), 511);
        said.due("known as a fool, true not", may("s;s;s;t0;d51;k01;"), 0b010);
    }

    private void oldOnesAndBoysMay() {
        said.that("OLD as a WISE, or if s is SENTENCE FIGURE and not TRUE");
        String school = "s;s;s;n10;n21;d61;";
        said.due("his figure though its need is lacking", may(school), 0b011);
        said.due("his figure though he knows it", may(school + "k01;"), 0b111);
        said.due("not his figure if true", may(school + "t1;"), 0b101);
        said.due("not another that he knows", may(school + "k00;"), 0b010);
        said.due("figure 9", may("s;s;n10;d69;"), 0b01);
        said.due("figure 0", may("s;s;n01;n10;d60;"), 0b01);
        said.due("figure 0, true", may("s;s;n10;t0;d60;"), 0b10);
        said.due("figure 2, true, though 1 is not", may("s;s;s;t2;d62;"), 0b011);
        said.due("figure 8, true", may("s;".repeat(9) + "t8;d68;"), 255);
        said.that("BOY as a FRIEND, and if s NEEDS something.");
        said.due("not his figure, not what needs nothing", may("s;s;s;n10;n20;d71;"), 0b100);
        said.due("figure 9", may("s;s;s;n10;n20;d79;"), 0b110);
        said.due("what he knows he may not", may("s;s;s;n10;n20;d79;k02;"), 0b010);
        said.due("what is true he may not", may("s;s;s;n10;n20;t1;d79;"), 0b100);
        said.due("needs that are lacking do not matter", may("s;s;n01;n10;d79;"), 0b11);
        said.due("on an odd day, too", may("s;s;n10;d79;d30;x10;"), 0b10);
    }

    private static int denied(String text, int s) {
        return Check.schoolOf(text).deny(0, s);
    }

    private void silenced() {
        said.that("He is SILENCED, if each SENTENCE that s NEEDS is TRUE, or he KNOWS it");
        String school = "s;s;s;n20;n21;d00;d00;";
        said.due("no needs", denied(school, 0), 1);
        said.due("two lacking", denied(school, 2), 0);
        said.due("the first true", denied(school + "t0;", 2), 0);
        said.due("the second true", denied(school + "t1;", 2), 0);
        said.due("both true", denied(school + "t0;t1;", 2), 1);
        said.due("the first known", denied(school + "k00;", 2), 0);
        said.due("the second known", denied(school + "k01;", 2), 0);
        said.due("both known", denied(school + "k00;k01;", 2), 1);
        said.due("one true, one known", denied(school + "t0;k01;", 2), 1);
        said.due("one both, one neither", denied(school + "t0;k00;", 2), 0);
        said.due("known by another", denied(school + "t0;k11;", 2), 0);
        said.due("needs of a need do not matter", denied("s;s;s;n10;n21;t1;d00;", 2), 1);
        HoldsOnceDenied x = Check.schoolOf("s;s;n10;d00;d10;d00;x00;x21;");
        x.die(0);
        said.due("what he needs has fallen", x.deny(1, 1), 0);
        String full = "s;".repeat(9) + "n80;n81;n82;n83;n84;n85;n86;n87;d00;k07;t6;t5;t4;t3;t2;t1;";
        said.due("seven of all eight others", denied(full, 8), 0);
        said.due("all eight others", denied(full + "t0;", 8), 1);
    }

    private void neverSilenced() {
        said.that("DEAF ones never, BOYS never if DAY is odd.");
        said.due("deaf of what needs nothing", denied("s;d30;", 0), 0);
        said.due("deaf of what needs what is true", denied("s;s;n10;t0;d30;", 1), 0);
        said.due("deaf of what needs what he knows", denied("s;s;n10;d30;k00;", 1), 0);
        said.due("deaf of what is true", denied("s;t0;d30;", 0), 0);
        String school = "s;s;n10;t0;d79;d30;";
        for (int day = 0; day < 5; day++) {
            String text = school + "x10;".repeat(day);
            said.due("silences of a boy on day " + day, Check.schoolOf(text).silences(0), day % 2 == 0 ? 0b10 : 0);
            said.due("a boy on day " + day, denied(text, 1), day % 2 == 0 ? 1 : 0);
        }
        said.due("a boy by what he knows", denied("s;s;n10;d79;k00;", 1), 1);
        said.due("a boy whose need is lacking", denied("s;s;n10;d79;", 1), 0);
    }

    /** Steps to silence at a sentence that needs n of the eight ahead of it. */
    private static int stepsOf(int kind, int figure, int n) {
        StringBuilder text = new StringBuilder("s;".repeat(9));
        for (int s = 0; s < n; s++) {
            text.append("n8").append(s).append(';');
        }
        return Check.schoolOf(text + "d" + kind + figure + ";").steps(0, 8);
    }

    /** At no needs and at eight, with the least figure and the most. */
    private void stepsAre(int kind, int none0, int none9, int eight0, int eight9) {
        said.due("no needs, figure 0", stepsOf(kind, 0, 0), none0);
        said.due("no needs, figure 9", stepsOf(kind, 9, 0), none9);
        said.due("eight needs, figure 0", stepsOf(kind, 0, 8), eight0);
        said.due("eight needs, figure 9", stepsOf(kind, 9, 8), eight9);
    }

    private void steps() {
        said.that("STEPS to silence (n SENTENCES that s NEEDS): DENIER n and 1");
        stepsAre(0, 1, 1, 9, 9);
        said.due("one need", stepsOf(0, 0, 1), 2);
        said.that("FOOL twice a DENIER's");
        stepsAre(1, 2, 2, 18, 18);
        said.that("WISE n");
        stepsAre(2, 0, 0, 8, 8);
        said.that("DEAF as a FOOL");
        stepsAre(3, 2, 2, 18, 18);
        said.that("FRIEND a DENIER's and FIGURE");
        stepsAre(4, 1, 10, 9, 18);
        said.that("HIRED a FOOL's less 1");
        stepsAre(5, 1, 1, 17, 17);
        said.that("OLD a WISE's and FIGURE");
        stepsAre(6, 0, 9, 8, 17);
        said.that("BOY a FRIEND's times 2.");
        stepsAre(7, 2, 20, 18, 36);
    }

    private void denying() {
        said.that("To DENY: DAY is one more");
        HoldsOnceDenied x = Check.schoolOf("s;s;n10;d00;d30;d10;");
        x.deny(0, 1);
        said.due("not silenced", x.count(2), 1);
        x.deny(0, 0);
        said.due("silenced", x.count(2), 2);
        x.deny(0, 0);
        said.due("he may not", x.count(2), 2);
        x.deny(1, 0);
        said.due("deaf, at a true one", x.count(2), 3);
        said.that("if he is SILENCED (by DAY as it was), s is TRUE from this new DAY on");
        said.due("from the new day on", x.sentence(0, 3), 2);
        said.due("not silenced, so not true", x.sentence(1, 1), 0);
        HoldsOnceDenied boy = Check.schoolOf("s;s;s;n10;n20;t0;d79;");
        said.due("a boy on day 0, though the new day is odd", boy.deny(0, 1), 1);
        said.due("a boy on day 1, though the new day is even", boy.deny(0, 2), 0);
        said.due("true from day 1 on", boy.sentence(1, 3), 1);
        said.due("not true", boy.sentence(2, 1), 0);
        said.that("he is its DENIER (the newest), and KNOWS it.");
        said.due("its denier", x.sentence(0, 2), 0);
        said.due("a deaf one is not its denier", x.sentence(0, 2), 0);
        said.due("he knows it, not what he was not silenced at", x.denier(0, 2), 0b01);
        said.due("a deaf one knows nothing by it", x.denier(1, 2), 0);
        x.deny(2, 1);
        x.die(0);
        said.due("a fool denies what fell", x.deny(2, 0), 1);
        said.due("the newest", x.sentence(0, 2), 2);
        said.due("from the newest day on", x.sentence(0, 3), 5);
        said.due("the second anew", x.deny(2, 1), 1);
        said.due("the newest of all dies", x.die(2), 2);
    }

    private void dying() {
        said.that("To DIE: he is alive no more");
        HoldsOnceDenied x = Check.schoolOf("s;s;s;s;n21;n32;d00;d00;d00;x00;x11;k12;t3;");
        said.due("one falls", x.die(1), 1);
        said.due("alive no more", x.denier(1, 3), 0);
        said.due("the others are", x.denier(0, 3) + x.denier(2, 3), 2);
        said.that("all that he is DENIER of falls (is TRUE no more), and, again and again, "
            + "each TRUE SENTENCE that NEEDS one that fell (the founder's, too).");
        said.due("what needs one that was never true stays", x.sentence(3, 1), 1);
        said.due("another's stays", x.sentence(0, 1), 1);
        said.due("his fell", x.sentence(1, 1), 0);
        said.due("all of his", Check.schoolOf("s;s;s;d00;d00;x00;x11;x02;").die(0), 2);
        said.due("none of his", Check.schoolOf("s;t0;d00;").die(0), 0);
        String down = "s;s;s;s;s;s;s;s;s;n01;n12;n23;n34;n45;n56;n67;n78;d00;";
        said.due("a chain down", Check.schoolOf(down + "x08;x07;x06;x05;t4;t3;t2;t1;t0;").die(0), 9);
        String up = "s;s;s;s;s;s;s;s;s;n10;n21;n32;n43;n54;n65;n76;n87;d00;d00;";
        said.due("a chain up, the founder's, too", Check.schoolOf(up + "x00;t1;t2;t3;t4;t5;x16;").die(0), 7);
        said.due("it ends where one is not true", Check.schoolOf(up + "x00;t1;t3;t4;").die(0), 2);
        HoldsOnceDenied ring = Check.schoolOf("s;s;s;n01;n12;n20;t1;t2;d00;x00;");
        said.due("a ring", ring.die(0), 3);
        HoldsOnceDenied known = Check.schoolOf("s;s;n10;d00;d00;x00;k10;x11;");
        said.due("though the other knows the need", known.die(0), 2);
        said.that("What falls has no DENIER; who KNOWS it KNOWS it still.");
        said.due("no denier", x.sentence(1, 2), -4);
        said.due("no day", x.sentence(1, 3), -4);
        said.due("who died knows it still", x.denier(1, 2), 0b110);
        said.due("who lives knows it still", known.denier(1, 2), 0b11);
        said.due("so he may not deny it", known.may(1), 0);
    }

    private void priceIs(int kind, int... byFigures) {
        int[] figures = {0, 1, 2, 8, 9};
        for (int f = 0; f < figures.length; f++) {
            HoldsOnceDenied x = new HoldsOnceDenied();
            x.keep(7, 1, kind, figures[f]);
            said.due("figure " + figures[f], x.price(7), byFigures[f]);
            x.comes(7);
            said.due("figure " + figures[f] + " in a school", x.denier(0, 4), byFigures[f]);
        }
    }

    private void prices() {
        said.that("PRICE of a DENIER: DENIER 3");
        priceIs(0, 3, 3, 3, 3, 3);
        said.that("FOOL a DENIER's less 1");
        priceIs(1, 2, 2, 2, 2, 2);
        said.that("WISE a DENIER's and FIGURE");
        priceIs(2, 3, 4, 5, 11, 12);
        said.that("DEAF twice a FOOL's");
        priceIs(3, 4, 4, 4, 4, 4);
        said.that("FRIEND a DENIER's times (FIGURE and 1)");
        priceIs(4, 3, 6, 9, 27, 30);
        said.that("HIRED a FOOL's and 5");
        priceIs(5, 7, 7, 7, 7, 7);
        said.that("OLD a WISE's less 2");
        priceIs(6, 1, 2, 3, 9, 10);
        said.that("BOY half of a FRIEND's, cut.");
        priceIs(7, 1, 3, 4, 13, 15);
    }
}
