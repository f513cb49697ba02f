/** Terms, last part: silences, what falls, what can be had, told disputes, the image. */
final class TermsOfMind {
    private final Said said;

    TermsOfMind(Said said) {
        this.said = said;
    }

    void look() {
        said.at("Terms");
        silences();
        falls();
        inMind();
        ever();
        soonest();
        easiest();
        all();
        first();
        atOnce();
        pricesAtOnce();
        hire();
        canHave();
        lonely();
        runs();
        seeded();
        draws();
        judged();
        judgedToTheEnd();
        image();
    }

    private void silences() {
        said.that("SILENCES of a DENIER: SENTENCES (bits) that are not TRUE, that he MAY DENY, and would be SILENCED by, now.");
        HoldsOnceDenied x = Check.schoolOf("s;s;s;s;s;t0;n10;n23;n40;n43;d00;d10;d30;d66;k03;k13;");
        said.due("a denier: neither what is true nor what he knows", x.silences(0), 0b10110);
        said.due("a fool: what he knows, too", x.silences(1), 0b11110);
        said.due("a deaf one: none, though he may all", x.silences(2), 0);
        HoldsOnceDenied y = Check.schoolOf("s;s;s;n10;n20;t0;d62;d71;d30;");
        said.due("an old one", y.silences(0), 0b110);
        said.due("a boy on an even day", y.silences(1), 0b100);
        y.deny(2, 0);
        said.due("a boy now, on an odd day", y.silences(1), 0);
        said.due("he may still", y.may(1), 0b100);
        y.deny(0, 2);
        said.due("a boy now, when it is true", y.silences(1), 0);
        HoldsOnceDenied z = Check.schoolOf("s;s;n10;d61;d00;");
        said.due("an old one may, and would not be silenced", z.silences(0), 0b01);
        z.die(1);
        said.due("a dead one", z.silences(1), 0);
        said.due("all nine", Check.schoolOf("s;".repeat(9) + "d00;").silences(0), 511);
    }

    private void falls() {
        said.that("FALLS: SENTENCES (bits) that were TRUE no more, if one died.");
        HoldsOnceDenied x = Check.schoolOf("s;s;s;s;s;n10;n21;n43;d00;d10;t2;t3;x00;x11;x04;");
        said.due("his, and what needs it", x.falls(0), 0b10111);
        said.due("the other's", x.falls(1), 0b00110);
        said.due("nobody has died", x.count(4), 2);
        said.due("nothing has fallen", x.count(3), 5);
        said.due("as many fall then", x.die(1), 2);
        said.due("a dead one's", x.falls(1), 0);
        said.due("the first's less then", x.falls(0), 0b10001);
        said.due("what was not true does not fall", Check.schoolOf("s;s;s;n10;n21;t2;d00;x00;").falls(0), 0b001);
        said.due("all nine", Check.schoolOf("s;".repeat(9) + "n01;n12;n23;n34;n45;n56;n67;n78;d00;x08;t7;t6;t5;t4;t3;t2;t1;t0;").falls(0), 511);
    }

    private void inMind() {
        said.that("In mind DENIALS by which somebody is SILENCED and a SENTENCE becomes TRUE are made one behind the other, "
            + "all looked at with DAY even (whatever it is)");
        HoldsOnceDenied odd = Check.schoolOf("s;s;s;n10;n21;t0;d79;d30;x10;");
        said.due("the day is odd", odd.count(2), 1);
        said.due("a boy makes two, one behind the other: ever", odd.ever(), 0b111);
        said.due("soonest", odd.soonest(2), 2);
        said.due("first", odd.first(2), 1);
        said.due("easiest", odd.easiest(2), 2 * (2 + 9) + 2 * (2 + 9));
        said.due("all", odd.all(), 2 * (2 + 9) + 2 * (2 + 9));
        said.due("at once is of now", odd.atOnce(0), 0);
        said.due("in mind only: true ones", odd.count(3), 1);
        said.due("in mind only: day", odd.count(2), 1);
        said.due("in mind only: he knows nothing", odd.denier(0, 2), 0);
        odd.deny(1, 0);
        said.due("on an even day: soonest", odd.soonest(2), 2);
        HoldsOnceDenied hired = Check.schoolOf("s;s;n10;t0;d30;x00;");
        said.due("a boy to hire on an odd day", hired.hire(9, 1), 2);
        oneAnswerBehindTheOther();
    }

    /** Nothing that is made in mind for one answer is there for the next one. */
    private void oneAnswerBehindTheOther() {
        HoldsOnceDenied x = Check.schoolOf("s;".repeat(9) + "n10;n21;n32;n43;n54;n65;n76;n87;d00;d69;k17;");
        Check.fill(x, 1, 0, 0, 0, 0, 1, 1, 8);
        Check.fill(x, 2, 0, 0, 0, 1, 0, 1, 1);
        for (int other = 0; other < 9; other++) {
            ask(x, other);
            said.due("soonest behind " + other, x.soonest(8), 1);
            ask(x, other);
            said.due("first behind " + other, x.first(6), 0);
            ask(x, other);
            said.due("easiest behind " + other, x.easiest(8), 10);
            ask(x, other);
            said.due("all behind " + other, x.all(), 1 + 2 * 7 + 2);
            ask(x, other);
            said.due("ever behind " + other, x.ever(), 511);
            ask(x, other);
            said.due("at once behind " + other, x.atOnce(0) * 100 + x.atOnce(1), 213);
            ask(x, other);
            said.due("hire behind " + other, x.hire(0, 1), 9);
            ask(x, other);
            said.due("run behind " + other, x.run(1, 0), 3);
            ask(x, other);
            said.due("judge behind " + other, x.judge(2), -4);
            ask(x, other);
            said.due("seeded behind " + other, x.seeded(1, 0), 0);
        }
    }

    private static void ask(HoldsOnceDenied x, int what) {
        switch (what) {
            case 0: x.atOnce(1); break;
            case 1: x.all(); break;
            case 2: x.soonest(8); break;
            case 3: x.easiest(0); break;
            case 4: x.hire(9, 0); break;
            case 5: x.run(1, 1); break;
            case 6: x.judge(2); break;
            case 7: x.seeded(40, 3); break;
            default: x.canHave(0); break;
        }
    }

    private static int ever(String text) {
        return Check.schoolOf(text).ever();
    }

    private void ever() {
        said.that("EVER: SENTENCES (bits) that can be TRUE in the end (those that are, too).");
        said.due("none", new HoldsOnceDenied().ever(), 0);
        said.due("those that are, though nobody is there", ever("s;s;s;t1;"), 0b010);
        said.due("those that are, though what they need is not", ever("s;s;n10;n01;t1;d30;"), 0b10);
        said.due("a chain up", ever("s;s;s;s;s;s;s;s;s;n10;n21;n32;n43;n54;n65;n76;n87;d00;"), 511);
        said.due("a chain down", ever("s;s;s;s;s;s;s;s;s;n01;n12;n23;n34;n45;n56;n67;n78;d00;"), 511);
        said.due("a chain whose beginning nobody may", ever("s;s;s;s;n01;n12;n23;d43;"), 0b0000);
        said.due("a chain that breaks off", ever("s;s;s;s;n01;n12;n23;d41;"), 0b1100);
        said.due("a ring", ever("s;s;s;n01;n10;d00;"), 0b100);
        said.due("a ring, and a fool who knows one", ever("s;s;s;n01;n10;d10;k01;"), 0b111);
        said.due("a ring, and a denier who knows one", ever("s;s;s;n01;n10;d00;k01;"), 0b101);
        said.due("what one knows does not help another", ever("s;s;n10;d00;d30;k10;k00;k11;k01;"), 0);
        said.due("what becomes true helps another", ever("s;s;n10;d50;d40;"), 0b11);
        said.due("deaf ones", ever("s;s;d30;"), 0);
        said.due("an old one of what he knows", ever("s;s;d60;k00;k01;"), 0b01);
        said.due("an old one who may, but is not silenced", ever("s;s;n01;n10;d60;"), 0);
        said.due("a wise one when it is true by then", ever("s;s;s;n10;n21;d20;"), 0b111);
        HoldsOnceDenied x = Check.schoolOf("s;s;n10;d00;d00;x00;");
        x.die(1);
        said.due("the living", x.ever(), 0b11);
        x.die(0);
        said.due("the dead do nothing", x.ever(), 0);
    }

    private void soonest() {
        said.that("SOONEST: the fewest such DENIALS till a SENTENCE is TRUE (0 it is); -4.");
        HoldsOnceDenied x = Check.schoolOf("s;s;s;s;s;n43;n42;n31;n20;t0;d00;d00;k11;d30;");
        said.due("it is", x.soonest(0), 0);
        said.due("one", x.soonest(1), 1);
        said.due("one, for the other knows its need", x.soonest(3), 1);
        said.due("three", x.soonest(4), 3);
        x.die(1);
        said.due("four, for he is dead", x.soonest(4), 4);
        x.die(0);
        said.due("never", x.soonest(4), -4);
        said.due("never, by nobody", Check.schoolOf("s;").soonest(0), -4);
        said.due("never, in a ring", Check.schoolOf("s;s;n01;n10;d00;").soonest(1), -4);
        said.due("never, though others come", Check.schoolOf("s;s;s;s;n20;d51;").soonest(3), -4);
        said.due("never, though what it needs comes", Check.schoolOf("s;s;s;n21;n10;d51;").soonest(2), -4);
        said.due("nine", Check.schoolOf("s;".repeat(9) + "n10;n21;n32;n43;n54;n65;n76;n87;d00;").soonest(8), 9);
        said.due("he knows it, so never", Check.schoolOf("s;d00;k00;").soonest(0), -4);
    }

    private void easiest() {
        said.that("EASIEST: the least sum of STEPS of such DENIALS till it is; -4.");
        said.due("it is", Check.schoolOf("s;t0;d00;").easiest(0), 0);
        said.due("never", Check.schoolOf("s;d30;").easiest(0), -4);
        said.due("never, though others come", Check.schoolOf("s;s;s;s;n20;d51;").easiest(3), -4);
        said.due("never, though what it needs comes", Check.schoolOf("s;s;s;n21;n10;d51;").easiest(2), -4);
        said.due("no steps", Check.schoolOf("s;d25;").easiest(0), 0);
        said.due("no steps twice", Check.schoolOf("s;s;n10;d20;d30;").easiest(1), 1);
        HoldsOnceDenied x = Check.schoolOf("s;s;s;n21;n20;d10;d41;d30;");
        said.due("the cheaper one for each", x.easiest(0), 2);
        said.due("the friend may not the second", x.easiest(1), 2);
        said.due("the friend is the cheaper for the third", x.easiest(2), 2 + 2 + 4);
        x.die(1);
        said.due("he is dead", x.easiest(2), 2 + 2 + 6);
        HoldsOnceDenied z = Check.schoolOf("s;s;n10;d00;d79;k10;");
        said.due("one denial by the boy", z.soonest(1), 1);
        said.due("two denials of fewer steps", z.easiest(1), 3);
        said.due("nine of a denier", Check.schoolOf("s;".repeat(9) + "n10;n21;n32;n43;n54;n65;n76;n87;d00;").easiest(8), 17);
        said.due("what is not needed costs nothing", Check.schoolOf("s;s;s;n20;d00;").easiest(2), 3);
    }

    private void all() {
        said.that("ALL: the least sum of STEPS till all of EVER are TRUE.");
        said.due("there are none", new HoldsOnceDenied().all(), 0);
        said.due("all are", Check.schoolOf("s;s;t0;t1;d00;").all(), 0);
        said.due("those that never are do not count", Check.schoolOf("s;s;s;n01;n10;d00;").all(), 1);
        said.due("nobody", Check.schoolOf("s;s;").all(), 0);
        said.due("each by the cheapest", Check.schoolOf("s;s;s;n10;n21;d00;d50;d21;k20;").all(), 0 + 1 + 1 + 1);
        said.due("nine of a boy and a fool", Check.schoolOf("s;".repeat(9) + "n80;n81;n82;n83;n84;n85;n86;n87;d70;d10;").all(), 8 * 2 + 18);
        HoldsOnceDenied x = Check.schoolOf("s;s;s;n21;d10;d45;");
        said.due("three", x.all(), 2 + 2 + 4);
        x.deny(0, 0);
        said.due("one is true", x.all(), 2 + 4);
        x.die(0);
        said.due("the cheaper one is dead", x.all(), 6 + 6 + 7);
    }

    private void first() {
        said.that("FIRST: of all SENTENCES with which such fewest DENIALS till a told one is TRUE can begin, the least (-4 none).");
        HoldsOnceDenied x = Check.schoolOf("s;s;s;s;s;n43;n42;d00;");
        said.due("not the least that can be denied, the least that is needed", x.first(4), 2);
        said.due("itself", x.first(3), 3);
        said.due("itself, the least", x.first(0), 0);
        Check.read(x, "t2;");
        said.due("what is true begins nothing", x.first(4), 3);
        said.due("it is", x.first(2), -4);
        said.due("never", Check.schoolOf("s;s;n01;n10;d00;").first(0), -4);
        said.due("never, though another can be denied", Check.schoolOf("s;s;d50;").first(1), -4);
        said.due("never, though what it needs comes", Check.schoolOf("s;s;s;n21;n10;d51;").first(2), -4);
        HoldsOnceDenied two = Check.schoolOf("s;s;s;s;n32;n20;n31;d00;k01;d00;");
        said.due("of several ways the least", two.first(3), 0);
        HoldsOnceDenied fewest = Check.schoolOf("s;s;s;n20;n21;d00;d00;k10;");
        said.due("not the least of a longer way", fewest.first(2), 1);
        said.due("the last of nine", Check.schoolOf("s;".repeat(9) + "n01;n12;n23;n34;n45;n56;n67;n78;d00;").first(0), 8);
    }

    private void atOnce() {
        said.that("AT ONCE: how many SENTENCES can become TRUE now, if each DENIER DENIES one of his SILENCES at most, all looked at as it is now");
        said.due("there are none", new HoldsOnceDenied().atOnce(0), 0);
        said.due("no deniers", Check.schoolOf("s;s;").atOnce(0), 0);
        said.due("one each", Check.schoolOf("s;s;s;d00;d10;").atOnce(0), 2);
        said.due("no more than can become true", Check.schoolOf("s;s;d00;d10;d20;d00;").atOnce(0), 2);
        said.due("not what needs what only becomes true then", Check.schoolOf("s;s;n10;d00;d10;").atOnce(0), 1);
        said.due("room is made", Check.schoolOf("s;s;s;d00;d51;d50;").atOnce(0), 3);
        said.due("two want one", Check.schoolOf("s;s;s;d50;d50;").atOnce(0), 1);
        said.due("six of nine", Check.schoolOf("s;".repeat(9) + "d00;d00;d00;d00;d00;d00;").atOnce(0), 6);
        said.due("the last of nine", Check.schoolOf("s;".repeat(9) + "t0;t1;t2;t3;t4;t5;t6;t7;d00;").atOnce(0), 1);
        HoldsOnceDenied x = Check.schoolOf("s;s;n10;t0;d79;d30;");
        said.due("a boy on an even day", x.atOnce(0), 1);
        x.deny(1, 0);
        said.due("a boy on an odd day", x.atOnce(0), 0);
        HoldsOnceDenied y = Check.schoolOf("s;s;d00;d00;");
        y.die(0);
        said.due("a dead one", y.atOnce(0), 1);
    }

    private void pricesAtOnce() {
        said.that("the least PRICES together of those who DENY then.");
        said.due("nobody denies", Check.schoolOf("s;d30;").atOnce(1), 0);
        said.due("the cheaper one", Check.schoolOf("s;d00;d10;d50;").atOnce(1), 2);
        said.due("the cheaper one, the other way round", Check.schoolOf("s;d50;d10;d00;").atOnce(1), 2);
        said.due("the cheapest two of three", Check.schoolOf("s;s;d29;d00;d10;").atOnce(1), 5);
        said.due("many go ahead of cheap", Check.schoolOf("s;s;d10;d49;").atOnce(1), 32);
        said.due("a dear one, for only he may", Check.schoolOf("s;s;d50;d50;d49;").atOnce(1), 37);
        said.due("a boy of figure 0 asks for 1", Check.schoolOf("s;s;n10;t0;d00;d70;").atOnce(1), 1);
        HoldsOnceDenied y = Check.schoolOf("s;d10;d49;");
        y.die(0);
        said.due("the cheap one is dead", y.atOnce(1), 30);
        said.due("six friends", Check.schoolOf("s;".repeat(9) + "d49;d49;d49;d49;d49;d49;").atOnce(1), 180);
    }

    private void hire() {
        said.that("HIRE: of KINDS 0 .. 7 with a told FIGURE that of which one DENIER more (who KNOWS nothing; be there room or not) "
            + "would make EVER most SENTENCES, of several the least");
        said.due("all kinds of none", new HoldsOnceDenied().hire(0, 0), 0);
        HoldsOnceDenied full = Check.schoolOf("s;s;n10;d30;d30;d30;d30;d30;d30;");
        said.due("no room, the kind", full.hire(3, 0), 0);
        said.due("no room, how many", full.hire(3, 1), 2);
        said.due("he has not come", full.ever(), 0);
        said.due("he knows nothing", Check.schoolOf("s;s;n10;n01;d00;k00;k01;").hire(1, 1), 0);
        said.due("nor what is true", Check.schoolOf("s;s;t0;d30;x00;").hire(1, 1), 2);
        for (int figure = 0; figure < 10; figure++) {
            said.due("figure " + figure + ", the least of several", Check.schoolOf("s;s;n10;").hire(figure, 0), 0);
        }
        said.that("how many SENTENCES EVER has then.");
        said.due("none", new HoldsOnceDenied().hire(9, 1), 0);
        said.due("those that are true, too", Check.schoolOf("s;s;s;t0;n12;n21;").hire(0, 1), 1);
        said.due("he and another", Check.schoolOf("s;s;s;n01;n10;d00;k00;").hire(5, 1), 3);
        said.due("nine", Check.schoolOf("s;".repeat(9) + "n01;n12;n23;n34;n45;n56;n67;n78;").hire(0, 1), 9);
        HoldsOnceDenied dead = Check.schoolOf("s;s;s;n01;n10;d00;k00;");
        dead.die(0);
        said.due("he alone, for the other is dead", dead.hire(5, 1), 1);
    }

    private void canHave() {
        said.that("CAN HAVE: DENIERS (bits; dead ones as if alive) who, if a SENTENCE that is TRUE were not, nobody KNEW it, "
            + "DAY were even, and all else as it is, MAY DENY it and would be SILENCED.");
        HoldsOnceDenied x = Check.schoolOf("s;s;n10;t0;d00;d10;d20;d30;d41;d50;x01;");
        said.due("the day is odd", x.count(2), 1);
        said.due("all that may and would hear", x.canHave(1), 0b000111);
        said.due("the founder's", x.canHave(0), 0b110111);
        x.die(2);
        x.die(3);
        said.due("dead ones as if alive", x.canHave(0), 0b110111);
        HoldsOnceDenied y = Check.schoolOf("s;s;n10;d00;k00;d79;d60;d61;x01;k11;");
        said.due("who does not know what it needs would not be silenced", y.canHave(1), 0b0001);
        y.learns(1, 0);
        said.due("a boy, though the day is odd, and though he knows it", y.canHave(1), 0b0011);
        y.learns(2, 0);
        y.learns(3, 0);
        said.due("old ones", y.canHave(1), 0b1111);
        said.due("it is true still", y.sentence(1, 1), 1);
        said.due("he knows it still", y.denier(1, 2), 0b11);
        said.due("the day is odd still", y.count(2), 1);
        HoldsOnceDenied ring = Check.schoolOf("s;s;n01;n10;t0;t1;d00;d20;");
        said.due("what needs it does not fall", ring.canHave(0), 0b11);
        said.due("six", Check.schoolOf("s;t0;d00;d10;d20;d60;d41;d59;").canHave(0), 0b111111);
        said.due("boys not of what needs nothing", Check.schoolOf("s;t0;d79;d40;d30;").canHave(0), 0);
    }

    private void lonely() {
        said.that("LONELY: SENTENCES (bits) not TRUE that nobody alive MAY DENY now.");
        said.due("none", new HoldsOnceDenied().lonely(), 0);
        said.due("nobody there", Check.schoolOf("s;s;s;t1;").lonely(), 0b101);
        said.due("all nine", Check.schoolOf("s;".repeat(9)).lonely(), 511);
        said.due("true ones are not lonely", Check.schoolOf("s;t0;").lonely(), 0);
        HoldsOnceDenied x = Check.schoolOf("s;s;s;s;d50;d00;k10;k12;d30;");
        said.due("a deaf one may all", x.lonely(), 0);
        x.die(2);
        said.due("he is dead", x.lonely(), 0b0100);
        x.die(1);
        said.due("the denier is dead", x.lonely(), 0b1110);
        x.die(0);
        said.due("all are dead", x.lonely(), 0b1111);
        said.due("who may need not be silenced", Check.schoolOf("s;s;n01;n10;d00;").lonely(), 0);
        said.due("the wise now", Check.schoolOf("s;s;s;n10;n21;d20;").lonely(), 0b110);
    }

    private static HoldsOnceDenied told(String text, int sort, int... values) {
        HoldsOnceDenied x = Check.schoolOf(text);
        Check.fill(x, 1, sort, values);
        return x;
    }

    private void runs() {
        said.that("RUN: a ROW of DENIALS, one behind the other, those that MAY not left out (in mind): "
            + "how many SENTENCES are TRUE then; how many were made.");
        String text = "s;s;s;n10;n21;d00;d10;d30;d79;";
        HoldsOnceDenied x = told(text, 0, 0, 1, 0, 0, 1, 0, 2, 0, 1, 1, 0, 2);
        said.due("true then", x.run(1, 0), 3);
        said.due("made", x.run(1, 1), 5);
        said.due("in mind: true ones", x.count(3), 0);
        said.due("in mind: day", x.count(2), 0);
        said.due("in mind: known", x.denier(0, 2), 0);
        HoldsOnceDenied back = told(text, 0, 0, 2, 0, 1, 0, 0);
        said.due("the other way round", back.run(1, 0), 1);
        said.due("made all the same", back.run(1, 1), 3);
        HoldsOnceDenied boys = told(text, 0, 0, 0, 3, 1, 3, 1, 0, 2);
        said.due("a boy on days 1 and 2 of the run", boys.run(1, 0), 3);
        said.due("made", boys.run(1, 1), 4);
        HoldsOnceDenied left = told(text, 0, 0, 0, 0, 0, 3, 1, 2, 0);
        said.due("what is left out makes no day", left.run(1, 0), 1);
        said.due("what is left out is not made", left.run(1, 1), 3);
        left.die(0);
        said.due("a dead one is left out", left.run(1, 1), 2);
        HoldsOnceDenied is = told("s;s;t0;d30;", 0);
        said.due("those that are true, too", is.run(1, 0), 1);
        said.due("no denials", is.run(1, 1), 0);
    }

    private static int likewise(HoldsOnceDenied x, Model m, int n, int z) {
        for (int k = 0; k < n; k++) {
            z = z * 1103515245 + 12345;
            int who = (int) ((z & 0x7fffffffL) / 65536 % x.count(1));
            z = z * 1103515245 + 12345;
            int what = (int) ((z & 0x7fffffffL) / 65536 % x.count(0));
            if (m.may(who, what)) {
                m.deny(who, what);
            }
        }
        return Integer.bitCount(m.trueBits());
    }

    private static Model modelOf(String text) {
        Model m = new Model();
        for (String statement : text.split(";")) {
            int one = statement.length() > 1 ? statement.charAt(1) - '0' : -1;
            int two = statement.length() > 2 ? statement.charAt(2) - '0' : -1;
            m.tell(statement.charAt(0), one, two);
        }
        return m;
    }

    private void seeded() {
        said.that("SEEDED: n DENIALS (1 .. 40) with a seed z, in mind: a DENIER (a DRAW below how many there are), "
            + "a SENTENCE (a DRAW likewise), those that MAY not left out: likewise how many are TRUE then.");
        String text = "s;s;s;s;s;s;s;n10;n21;n43;n65;n60;d00;d79;d20;d30;d53;";
        HoldsOnceDenied x = Check.schoolOf(text);
        for (int n : new int[] {1, 2, 3, 5, 8, 13, 21, 39, 40}) {
            for (int z : new int[] {0, 1, -1, 7, 1000003, -77777, Integer.MAX_VALUE, Integer.MIN_VALUE}) {
                said.due("seeded(" + n + ", " + z + ")", x.seeded(n, z), likewise(x, modelOf(text), n, z));
            }
        }
        said.due("in mind: true ones", x.count(3), 0);
        said.due("in mind: day", x.count(2), 0);
        said.due("no denials", x.seeded(0, 1), -1);
        said.due("below 0", x.seeded(-1, 1), -1);
        said.due("forty-one", x.seeded(41, 1), -1);
        HoldsOnceDenied one = Check.schoolOf("s;d00;d00;");
        one.die(0);
        one.die(1);
        said.due("dead ones are drawn, and left out", one.seeded(40, 1), 0);
        HoldsOnceDenied half = Check.schoolOf("s;s;d50;d30;");
        half.die(1);
        Model m = modelOf("s;s;d50;d30;");
        m.die(1);
        for (int z = 0; z < 20; z++) {
            said.due("with a dead one, seeded(1, " + z + ")", half.seeded(1, z), likewise(half, m.copy(), 1, z));
        }
    }

    private void draws() {
        said.that("DRAWS: z becomes z times 1103515245 plus 12345 (an int); "
            + "a DRAW below n is (z without its sign's bit over 65536, cut) modulo n.");
        // From 0: 12345 draws 0; then -740551042 is 1406932606 without its sign's bit and draws 21468, modulo 9 that is 3.
        drawn(0, 6, 9, 0, 3);
        drawn(0, 5, 7, 0, 6);
        // From 1: 1103527590 draws 16838; then -1770082073 draws 5758.
        drawn(1, 6, 9, 2, 7);
        drawn(1, 5, 7, 3, 4);
        // From -1: -1103502900 draws 15929; then 288979989 draws 4409.
        drawn(-1, 6, 9, 5, 8);
        drawn(-1, 5, 7, 4, 6);
        drawn(-1, 4, 1, 1, 0);
        drawn(7, 6, 9, 4, 5);
        drawn(42, 5, 7, 1, 2);
        drawn(99, 6, 9, 2, 6);
        drawn(123456789, 1, 8, 0, 3);
        drawn(-987654321, 6, 9, 5, 8);
        drawn(Integer.MAX_VALUE, 5, 7, 4, 6);
        drawn(Integer.MIN_VALUE, 6, 9, 0, 3);
    }

    /** Only the one who is due can be silenced, only what is due is not true yet: so all are true if just that is drawn. */
    private void drawn(int z, int deniers, int sentences, int who, int what) {
        StringBuilder text = new StringBuilder("s;".repeat(sentences));
        for (int s = 0; s < sentences; s++) {
            text.append(s == what ? "" : "t" + s + ";");
        }
        for (int i = 0; i < deniers; i++) {
            text.append(i == who ? "d00;" : "d30;");
        }
        said.due(z + " draws " + who + ", " + what, Check.schoolOf(text.toString()).seeded(1, z), sentences);
    }

    private void judged() {
        said.that("JUDGED: a ROW, by threes a DENIER, a SENTENCE, whether he is SILENCED (1, 0), one behind the other in mind: "
            + "the place of the first that isn't so (no DENIER: his place; no SENTENCE, or he MAY not: its place; otherwise silenced: that place)");
        String text = "s;s;n10;d00;d10;d30;d79;";
        said.due("no denier", told(text, 2, 4, 0, 1).judge(1), 0);
        said.due("no denier below 0", told(text, 2, -1, 0, 1).judge(1), 0);
        said.due("no denier, nor sentence", told(text, 2, 9, 9, 9).judge(1), 0);
        said.due("no denier later", told(text, 0, 0, 0, 1, 1, 1, 1, 4, 0, 0).judge(1), 6);
        said.due("no sentence", told(text, 1, 0, 2, 1).judge(1), 1);
        said.due("no sentence below 0", told(text, 1, 0, -1, 1).judge(1), 1);
        said.due("no sentence, though a deaf one may always", told(text, 1, 2, 2, 0).judge(1), 1);
        said.due("he may not", told(text, 1, 0, 0, 1, 0, 0, 1).judge(1), 4);
        said.due("he may not from the start", told(text + "t0;", 1, 0, 0, 7).judge(1), 1);
        said.due("silenced, told not", told(text, 2, 0, 0, 0).judge(1), 2);
        said.due("not silenced, told so", told(text, 2, 0, 1, 1).judge(1), 2);
        said.due("silenced, told 2", told(text, 2, 0, 0, 2).judge(1), 2);
        said.due("not silenced, told -1", told(text, 2, 0, 1, -1).judge(1), 2);
        said.due("the first of two that aren't", told(text, 2, 0, 0, 0, 9, 9, 9).judge(1), 2);
        said.due("the deaf told silenced later", told(text, 2, 0, 0, 1, 2, 0, 1).judge(1), 5);
        said.due("a boy on day 1 in mind", told(text, 2, 0, 0, 1, 3, 1, 1).judge(1), 5);
        said.due("a boy on day 1 in mind, told so", told(text, 2, 0, 0, 1, 3, 1, 0).judge(1), -4);
        HoldsOnceDenied x = told(text, 2, 0, 0, 1);
        x.die(0);
        said.due("a dead one may not", x.judge(1), 1);
        int[] many = new int[99];
        for (int p = 0; p < 99; p += 3) {
            many[p] = 2;
        }
        said.due("thirty-three", told(text, 0, many).judge(1), -4);
        many[98] = 1;
        said.due("the last of thirty-three", told(text, 0, many).judge(1), 98);
    }

    private void judgedToTheEnd() {
        said.that("where the last three would begin, if they are not whole and all ahead is so; -4.");
        String text = "s;s;n10;d00;d10;d30;";
        said.due("all is so", told(text, 2, 0, 1, 0, 0, 0, 1, 2, 0, 0, 1, 1, 1).judge(1), -4);
        said.due("nothing told", told(text, 2).judge(1), -4);
        said.due("one of three", told(text, 2, 0).judge(1), 0);
        said.due("two of three", told(text, 2, 0, 0).judge(1), 0);
        said.due("one of three behind", told(text, 2, 0, 0, 1, 0).judge(1), 3);
        said.due("two of three behind, though there is no such denier", told(text, 2, 0, 0, 1, 9, 9).judge(1), 3);
        said.due("what is ahead goes first", told(text, 2, 0, 0, 0, 9).judge(1), 2);
        int[] many = new int[100];
        for (int p = 0; p < 99; p += 3) {
            many[p] = 2;
        }
        said.due("the hundredth", told(text, 0, many).judge(1), 99);
        HoldsOnceDenied x = told(text, 0, 0, 0, 1);
        said.due("in mind", x.judge(1) + x.judge(1), -8);
        said.due("in mind: nothing true", x.count(3) + x.count(2) + x.denier(0, 2), 0);
    }

    private void image() {
        said.that("THE IMAGE: all that there is, but SHELVES (and THE IMAGE); RESTORED all is as it was then.");
        HoldsOnceDenied x = Check.schoolOf("s;s;s;n10;d00;d26;k12;x00;t2;d30;");
        x.image();
        Check.read(x, "s;n02;n21;d55;k01;x20;t1;");
        x.die(0);
        x.die(2);
        said.due("restored", x.restore(), 2);
        said.due("sentences", x.count(0), 3);
        said.due("deniers", x.count(1), 3);
        said.due("day", x.count(2), 1);
        said.due("alive", x.count(4), 3);
        said.due("needs", x.sentence(0, 0) + x.sentence(2, 0), 0);
        said.due("needs as then", x.sentence(1, 0), 1);
        said.due("not true then", x.sentence(1, 1), 0);
        said.due("denier as then", x.sentence(0, 2), 0);
        said.due("day as then", x.sentence(0, 3), 1);
        said.due("the founder's", x.sentence(2, 2), -4);
        said.due("known as then", x.denier(0, 2), 0b001);
        said.due("known by the other", x.denier(1, 2), 0b100);
        said.due("who came is gone", x.denier(3, 0), -1);
        said.due("who comes is of his own kind", Check.read(x, "d41;"), 1);
        said.due("and knows nothing", x.denier(3, 2) * 10 + x.denier(3, 0), 4);
        said.due("restored once more", x.restore(), 2);
        said.due("three again", x.count(1), 3);
        x.deny(0, 1);
        said.due("another image", x.image(), 3);
        x.die(0);
        said.due("the newest is restored", x.restore(), 3);
    }
}
