/** Promises 9 to 13. */
public final class WhoMayTest {
    private static final Check CHECK = new Check("WhoMayTest");

    public static void main(String[] args) {
        whoMay();
        whoIsSilenced();
        stepsOfEachKind();
        whatWouldFall();
        whatIsLonely();
        CHECK.finish();
    }

    private static void due(String call, long got, long want) {
        CHECK.due(call, got, want);
    }

    /** Sentences: 0 true, 1 needs 0, 2 needs 3, 3 needs none, 4 needs 0 and 3; one denier with a figure. */
    private static HoldsOnceDenied five(int kind, int figure, String more) {
        return Check.schoolOf("s;s;s;s;s;t0;n10;n23;n40;n43;d" + kind + figure + ";" + more);
    }

    private static void whoMay() {
        due("P9 denier", five(0, 0, "").may(0), 0b11110);
        due("P9 denier who knows", five(0, 0, "k01;k03;").may(0), 0b10100);
        due("P9 fool who knows", five(1, 0, "k01;k03;").may(0), 0b11110);
        due("P9 wise", five(2, 0, "").may(0), 0b01010);
        due("P9 wise who knows a need", five(2, 0, "k03;").may(0), 0b10110);
        due("P9 deaf", five(3, 0, "k01;").may(0), 0b11111);
        due("P9 friend", five(4, 3, "k01;").may(0), 0b10100);
        due("P9 hired", five(5, 2, "k01;").may(0), 0b00110);
        due("P9 hired for all", five(5, 9, "").may(0), 0b11110);
        due("P9 old", five(6, 2, "").may(0), 0b01110);
        due("P9 old, figure known", five(6, 2, "k02;").may(0), 0b01110);
        due("P9 old, figure true", five(6, 0, "").may(0), 0b01010);
        due("P9 boy", five(7, 4, "").may(0), 0b00110);
        due("P9 boy who knows", five(7, 9, "k01;").may(0), 0b10100);
        HoldsOnceDenied x = five(3, 0, "");
        x.die(0);
        due("P9 dead", x.may(0), 0);
        due("P9 no such", x.may(1), -1);
        due("P9 below", x.may(-1), -1);
    }

    private static void whoIsSilenced() {
        due("P10 denier", five(0, 0, "").silences(0), 0b01010);
        due("P10 denier who knows a need", five(0, 0, "k03;").silences(0), 0b10110);
        due("P10 fool", five(1, 0, "").silences(0), 0b01010);
        due("P10 fool who knows", five(1, 0, "k03;").silences(0), 0b11110);
        due("P10 wise", five(2, 0, "").silences(0), 0b01010);
        due("P10 deaf", five(3, 0, "k03;").silences(0), 0);
        due("P10 friend", five(4, 3, "").silences(0), 0b00010);
        due("P10 hired", five(5, 1, "").silences(0), 0b00010);
        due("P10 old may, but is not silenced", five(6, 2, "").silences(0), 0b01010);
        due("P10 boy", five(7, 9, "").silences(0), 0b00010);
        HoldsOnceDenied x = five(7, 9, "d30;x10;");
        due("P10 boy on an odd day", x.silences(0), 0);
        due("P10 he may all the same", x.may(0), 0b10110);
        x.deny(1, 0);
        due("P10 boy on an even day", x.silences(0), 0b00010);
        x.die(0);
        due("P10 dead", x.silences(0), 0);
        due("P10 no such", x.silences(2), -1);
        due("P10 below", x.silences(-1), -1);
    }

    private static void stepsOfEachKind() {
        int[] ofNone = {1, 2, 0, 2, 4, 1, 3, 8};
        int[] ofTwo = {3, 6, 2, 6, 6, 5, 5, 12};
        for (int kind = 0; kind < 8; kind++) {
            HoldsOnceDenied x = five(kind, 3, "");
            due("P11 steps of kind " + kind, x.steps(0, 0), ofNone[kind]);
            due("P11 steps of kind " + kind, x.steps(0, 4), ofTwo[kind]);
            x.die(0);
            due("P11 dead", x.steps(0, 4), ofTwo[kind]);
        }
        HoldsOnceDenied x = five(0, 0, "");
        due("P11 no denier", x.steps(1, 0), -1);
        due("P11 below", x.steps(-1, 0), -1);
        due("P11 no sentence", x.steps(0, 5), -1);
        due("P11 below", x.steps(0, -1), -1);
    }

    private static void whatWouldFall() {
        HoldsOnceDenied x = Check.schoolOf("s;s;s;s;n10;n21;d00;d10;t2;x00;x11;x03;");
        due("P12 his and what needs it", x.falls(0), 0b1111);
        due("P12 the other's", x.falls(1), 0b0110);
        due("P12 nothing has fallen", x.count(3), 4);
        due("P12 nobody has died", x.count(4), 2);
        x.die(1);
        due("P12 dead", x.falls(1), 0);
        due("P12 no such", x.falls(2), -1);
        due("P12 below", x.falls(-1), -1);
    }

    private static void whatIsLonely() {
        due("P13 no sentences", new HoldsOnceDenied().lonely(), 0);
        due("P13 no deniers", Check.schoolOf("s;s;t0;s;").lonely(), 0b110);
        due("P13 the first may be lonely", Check.schoolOf("s;s;d00;k00;").lonely(), 0b01);
        due("P13 one who knows", five(0, 0, "k01;k03;").lonely(), 0b01010);
        due("P13 another may", five(0, 0, "k01;k03;d51;").lonely(), 0b01000);
        HoldsOnceDenied x = five(0, 0, "k01;k03;d30;");
        due("P13 a deaf one", x.lonely(), 0);
        x.die(1);
        due("P13 the deaf one is dead", x.lonely(), 0b01010);
        x.die(0);
        due("P13 all are dead", x.lonely(), 0b11110);
    }
}
