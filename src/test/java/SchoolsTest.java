/** Promises 1 to 8. */
public final class SchoolsTest {
    private static final Check CHECK = new Check("SchoolsTest");

    public static void main(String[] args) {
        aNewObject();
        schoolsAreRead();
        faultsOfTheFirstKind();
        faultsOfTheSecondKind();
        needsAreToldAgain();
        aSchoolComesToWhatThereIs();
        sentencesAreTold();
        deniersAreTold();
        deniersCome();
        deniersLearn();
        deniersDeny();
        boysAreSilencedOnEvenDaysOnly();
        deniersDie();
        CHECK.finish();
    }

    private static void due(String call, long got, long want) {
        CHECK.due(call, got, want);
    }

    private static void aNewObject() {
        HoldsOnceDenied x = new HoldsOnceDenied();
        for (int what = 0; what < 5; what++) {
            due("P1 count(" + what + ")", x.count(what), 0);
        }
        due("P1 sentence", x.sentence(0, 0), -1);
        due("P1 denier", x.denier(0, 0), -1);
        due("P1 shelf", x.price(0), -11);
        due("P1 image", x.restore(), -3);
    }

    private static void schoolsAreRead() {
        HoldsOnceDenied x = new HoldsOnceDenied();
        due("P2 read", Check.read(x, "s;s;n10;d00;k00;t1;"), 6);
        due("P2 sentences", x.count(0), 2);
        due("P2 deniers", x.count(1), 1);
        due("P2 needs", x.sentence(1, 0), 1);
        due("P2 knows", x.denier(0, 2), 1);
        due("P2 true", x.count(3), 1);
        due("P2 day", x.count(2), 0);
        due("P2 the row stays", x.element(0, 0), 's');
        due("P2 x", Check.read(Check.schoolOf("s;s;s;d10;"), "x00;x00;"), -2004);
        HoldsOnceDenied y = Check.schoolOf("s;s;n01;d10;x00;x01;x00;");
        due("P2 unsilenced denials count as days", y.count(2), 3);
        due("P2 silenced first", y.sentence(1, 3), 2);
        due("P2 silenced last", y.sentence(0, 3), 3);
        HoldsOnceDenied z = new HoldsOnceDenied();
        due("P2 no shelf below", z.school(-1), -1);
        due("P2 no shelf above", z.school(8), -1);
        due("P2 empty", z.school(7), -11);
        z.keep(1, 1, 0, 0);
        due("P2 a denier", z.school(1), -12);
        z.row(1, 1, 2);
        due("P2 shorts", z.school(1), -12);
        z.row(1, 2, 2);
        due("P2 ints", z.school(1), -12);
        due("P2 k twice", Check.read(z, "s;d00;k00;k00;"), 4);
    }

    private static void faultsOfTheFirstKind() {
        String[] texts = {"", "s", "s;;", "s;z", "n0", "n01", "n0a;", "n012", "t;", "t00;", "d0;", "k00;x0;", "s0;",
            "n00;n", "S;", "x00", "s;t:;", "s;t/;", "s; "};
        int[] places = {0, 1, 2, 2, 2, 3, 2, 3, 1, 2, 2, 6, 1, 5, 0, 3, 3, 3, 2};
        for (int i = 0; i < texts.length; i++) {
            HoldsOnceDenied x = new HoldsOnceDenied();
            due("P2 fault in '" + texts[i] + "'", Check.read(x, texts[i]), -1000 - places[i]);
            due("P2 nothing comes", x.count(0) + x.count(1), 0);
        }
        HoldsOnceDenied x = new HoldsOnceDenied();
        Check.fill(x, 3, 0, 's', ';', -13, ';');
        due("P2 a byte below 0", x.school(3), -1002);
    }

    private static void faultsOfTheSecondKind() {
        String[] texts = {"n01;", "s;n01;", "s;n10;", "s;s;n00;", "s;s;n01;n00;", "s;s;n01;n11;", "t0;", "s;t0;t0;", "d80;", "d90;",
            "d00;d00;d00;d00;d00;d00;d00;", "s;s;s;s;s;s;s;s;s;s;", "k00;", "s;k00;", "d00;k00;", "x00;", "s;x00;",
            "d00;x00;", "s;d00;k00;x00;", "s;t0;d10;x00;", "s;s;n01;d20;x00;", "s;d40;x00;", "s;s;d50;x01;",
            "s;d71;x00;", "s;d00;t0;x00;n00;", "s;d00;x00;t0;"};
        int[] places = {0, 2, 2, 4, 8, 8, 0, 5, 0, 0, 24, 18, 0, 2, 4, 0, 2, 4, 10, 9, 12, 6, 8, 6, 9, 10};
        for (int i = 0; i < texts.length; i++) {
            HoldsOnceDenied x = new HoldsOnceDenied();
            due("P2 fault in '" + texts[i] + "'", Check.read(x, texts[i]), -2000 - places[i]);
            due("P2 nothing comes", x.count(0) + x.count(1) + x.count(2), 0);
        }
        due("P2 kind 1 ahead of kind 2", Check.read(new HoldsOnceDenied(), "n00;s"), -1005);
        due("P2 the other way round may be needed", Check.read(new HoldsOnceDenied(), "s;s;n01;n10;"), 4);
        due("P2 a deaf one may", Check.read(new HoldsOnceDenied(), "s;t0;d30;x00;"), 4);
    }

    private static void needsAreToldAgain() {
        HoldsOnceDenied x = new HoldsOnceDenied();
        due("P2 a need twice in a text", Check.read(x, "s;s;n01;n01;"), 4);
        due("P2 it needs it once", x.sentence(0, 0), 2);
        due("P2 the needed one needs nothing", x.sentence(1, 0), 0);
        due("P2 a need twice by two texts", Check.read(x, "n01;"), 1);
        due("P2 it needs it once still", x.sentence(0, 0), 2);
        due("P2 one need more", Check.read(x, "n01;n10;d00;n01;"), 4);
        due("P2 needs of the first", x.sentence(0, 0), 2);
        due("P2 needs of the second", x.sentence(1, 0), 1);
        due("P2 steps count it once", x.steps(0, 0), 2);
        due("P2 one sentence twice in one n", Check.read(x, "n01;n00;"), -2004);
        due("P2 the other twice in one n", Check.read(x, "n11;"), -2000);
        due("P2 needs as before", x.sentence(0, 0), 2);
        HoldsOnceDenied y = Check.schoolOf("s;s;s;n01;n10;t2;n02;d71;d60;k10;k01;");
        due("P2 a text twice fails at its t", y.school(0), -2014);
        due("P2 nothing of it comes", y.count(0), 3);
        due("P2 needs as they were", y.sentence(0, 0), 6);
    }

    private static void aSchoolComesToWhatThereIs() {
        HoldsOnceDenied x = Check.schoolOf("s;s;n10;d00;x00;");
        due("P2 more", Check.read(x, "s;n21;t2;d25;k12;"), 5);
        due("P2 sentences", x.count(0), 3);
        due("P2 deniers", x.count(1), 2);
        due("P2 founder's day", x.sentence(2, 3), 1);
        due("P2 founder's", x.sentence(2, 2), -4);
        due("P2 need is there already", Check.read(x, "n10;"), 1);
        due("P2 true already", Check.read(x, "t0;"), -2000);
        x.die(0);
        due("P2 a dead one may not", Check.read(x, "x00;"), -2000);
        due("P2 fault undoes all", Check.read(x, "s;d00;k00;x10;x99;"), -2014);
        due("P2 sentences as before", x.count(0), 3);
        due("P2 deniers as before", x.count(1), 2);
        due("P2 knows as before", x.denier(0, 2), 1);
        due("P2 day as before", x.count(2), 1);
    }

    private static void sentencesAreTold() {
        HoldsOnceDenied x = Check.schoolOf("s;s;s;n20;n21;d00;d10;x10;t1;");
        due("P3 needs", x.sentence(2, 0), 3);
        due("P3 no needs", x.sentence(0, 0), 0);
        due("P3 true", x.sentence(0, 1), 1);
        due("P3 not true", x.sentence(2, 1), 0);
        due("P3 denier", x.sentence(0, 2), 1);
        due("P3 founder's", x.sentence(1, 2), -4);
        due("P3 none", x.sentence(2, 2), -4);
        due("P3 day", x.sentence(0, 3), 1);
        due("P3 founder's day", x.sentence(1, 3), 1);
        due("P3 no day", x.sentence(2, 3), -4);
        due("P3 no such", x.sentence(3, 0), -1);
        due("P3 below", x.sentence(-1, 0), -1);
        due("P3 what above", x.sentence(0, 4), -1);
        due("P3 what below", x.sentence(0, -1), -1);
        x.die(1);
        due("P3 fallen, its denier", x.sentence(0, 2), -4);
        due("P3 fallen, its day", x.sentence(0, 3), -4);
    }

    private static void deniersAreTold() {
        HoldsOnceDenied x = Check.schoolOf("s;s;s;d64;d73;k01;k02;");
        due("P4 kind", x.denier(0, 0), 6);
        due("P4 figure", x.denier(0, 1), 4);
        due("P4 knows", x.denier(0, 2), 6);
        due("P4 alive", x.denier(0, 3), 1);
        due("P4 price", x.denier(0, 4), 5);
        due("P4 another", x.denier(1, 4), 6);
        due("P4 another's", x.denier(1, 2), 0);
        x.die(0);
        due("P4 dead", x.denier(0, 3), 0);
        due("P4 knows still", x.denier(0, 2), 6);
        due("P4 no such", x.denier(2, 0), -1);
        due("P4 below", x.denier(-1, 0), -1);
        due("P4 what above", x.denier(0, 5), -1);
        due("P4 what below", x.denier(0, -1), -1);
    }

    private static void deniersCome() {
        HoldsOnceDenied x = new HoldsOnceDenied();
        due("P5 below", x.comes(-1), -1);
        due("P5 above", x.comes(8), -1);
        due("P5 nothing", x.comes(2), -11);
        x.row(2, 0, 1);
        due("P5 a row", x.comes(2), -12);
        x.keep(2, 1, 4, 7);
        for (int i = 0; i < 6; i++) {
            due("P5 comes", x.comes(2), i);
        }
        due("P5 kind", x.denier(5, 0), 4);
        due("P5 figure", x.denier(5, 1), 7);
        due("P5 knows", x.denier(5, 2), 0);
        due("P5 alive", x.count(4), 6);
        due("P5 full", x.comes(2), -2);
        due("P5 full, nothing held", x.comes(3), -11);
        due("P5 stays on the shelf", x.price(2), 24);
        x.die(3);
        due("P5 the dead take room", x.comes(2), -2);
    }

    private static void deniersLearn() {
        HoldsOnceDenied x = Check.schoolOf("s;s;d00;d10;");
        due("P6 learns", x.learns(0, 1), 1);
        due("P6 knew", x.learns(0, 1), 0);
        due("P6 knows", x.denier(0, 2), 2);
        due("P6 nobody else", x.denier(1, 2), 0);
        due("P6 denier", x.learns(2, 0), -1);
        due("P6 denier below", x.learns(-1, 0), -1);
        due("P6 sentence", x.learns(0, 2), -1);
        due("P6 sentence below", x.learns(0, -1), -1);
        x.die(1);
        due("P6 a dead one", x.learns(1, 0), 1);
    }

    private static void deniersDeny() {
        HoldsOnceDenied x = Check.schoolOf("s;s;s;n10;d00;d10;d30;");
        due("P7 not silenced", x.deny(0, 1), 0);
        due("P7 day", x.count(2), 1);
        due("P7 knows nothing by it", x.denier(0, 2), 0);
        due("P7 silenced", x.deny(0, 0), 1);
        due("P7 true", x.sentence(0, 1), 1);
        due("P7 its denier", x.sentence(0, 2), 0);
        due("P7 its day", x.sentence(0, 3), 2);
        due("P7 knows", x.denier(0, 2), 1);
        due("P7 may not", x.deny(1, 0), -3);
        due("P7 no day for that", x.count(2), 2);
        due("P7 deaf", x.deny(2, 0), 0);
        due("P7 deaf, its denier", x.sentence(0, 2), 0);
        due("P7 deaf, day", x.count(2), 3);
        due("P7 silenced by what is true", x.deny(1, 1), 1);
        due("P7 no denier", x.deny(3, 0), -1);
        due("P7 no sentence", x.deny(0, 3), -1);
        due("P7 below", x.deny(-1, 0), -1);
        due("P7 below", x.deny(0, -1), -1);
        x.die(1);
        due("P7 a dead one", x.deny(1, 2), -3);
        HoldsOnceDenied y = Check.schoolOf("s;s;n10;d00;k00;");
        due("P7 silenced by what he knows", y.deny(0, 1), 1);
        due("P7 he knows it", y.deny(0, 0), -3);
    }

    private static void boysAreSilencedOnEvenDaysOnly() {
        HoldsOnceDenied x = Check.schoolOf("s;s;n10;t0;d75;d30;");
        due("P7 deaf on day 0", x.deny(1, 1), 0);
        due("P7 boy on day 1", x.deny(0, 1), 0);
        due("P7 boy on day 2", x.deny(0, 1), 1);
        due("P7 day", x.sentence(1, 3), 3);
        HoldsOnceDenied y = Check.schoolOf("s;s;n10;t0;d75;");
        due("P7 boy on day 0", y.deny(0, 1), 1);
    }

    private static void deniersDie() {
        HoldsOnceDenied x = Check.schoolOf("s;s;s;s;s;n10;n21;n43;d00;d10;t2;t3;x00;x11;x04;");
        due("P8 founder's falls too", x.die(1), 2);
        due("P8 first stays", x.sentence(0, 1), 1);
        due("P8 second fell", x.sentence(1, 1), 0);
        due("P8 third fell", x.sentence(2, 1), 0);
        due("P8 fourth stays", x.sentence(3, 1), 1);
        due("P8 knows still", x.denier(1, 2), 2);
        due("P8 alive", x.count(4), 1);
        due("P8 dead", x.die(1), -3);
        due("P8 the rest", x.die(0), 2);
        due("P8 no such", x.die(2), -1);
        due("P8 below", x.die(-1), -1);
        due("P8 day stays", x.count(2), 3);
        HoldsOnceDenied y = Check.schoolOf("s;s;s;d00;d00;n01;n10;k01;x00;x11;");
        due("P8 needs in a ring", y.die(1), 2);
        HoldsOnceDenied z = Check.schoolOf("s;s;n10;d00;d00;k00;x01;");
        due("P8 what was never true does not fell", z.die(1), 0);
        HoldsOnceDenied w = Check.schoolOf("s;s;n10;d00;d00;k00;x10;x01;");
        due("P8 falls though known", w.die(1), 2);
        HoldsOnceDenied v = Check.schoolOf("s;s;s;s;n01;n12;n23;d00;x03;x02;x01;x00;d00;");
        due("P8 none of his", v.die(1), 0);
        due("P8 again and again", v.die(0), 4);
    }
}
