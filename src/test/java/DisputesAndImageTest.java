/** Promises 22 to 27. */
public final class DisputesAndImageTest {
    private static final Check CHECK = new Check("DisputesAndImageTest");

    public static void main(String[] args) {
        runs();
        seeded();
        judged();
        images();
        counts();
        CHECK.finish();
    }

    private static void due(String call, long got, long want) {
        CHECK.due(call, got, want);
    }

    private static HoldsOnceDenied told(String text, int sort, int... values) {
        HoldsOnceDenied x = Check.schoolOf(text);
        Check.fill(x, 1, sort, values);
        return x;
    }

    private static void runs() {
        String text = "s;s;s;n10;n21;d00;d10;d30;d79;";
        HoldsOnceDenied x = told(text, 0, 0, 1, 0, 0, 1, 0, 2, 0, 1, 1, 0, 2);
        due("P22 true ones", x.run(1, 0), 3);
        due("P22 made ones", x.run(1, 1), 5);
        due("P22 in mind only", x.count(3) + x.count(2), 0);
        due("P22 what above", x.run(1, 2), -1);
        due("P22 what below", x.run(1, -1), -1);
        due("P22 no shelf", x.run(8, 0), -1);
        due("P22 no shelf", x.run(-1, 0), -1);
        due("P22 nothing", x.run(5, 0), -11);
        due("P22 what ahead of nothing", x.run(5, 2), -1);
        x.keep(5, 1, 0, 0);
        due("P22 a denier", x.run(5, 0), -12);
        due("P22 shorts", told(text, 1, 0, 0).run(1, 0), -12);
        due("P22 odd size", told(text, 0, 0, 0, 1).run(1, 0), -13);
        due("P22 no such denier", told(text, 0, 4, 0).run(1, 0), -13);
        due("P22 no such denier", told(text, 0, -1, 0).run(1, 0), -13);
        due("P22 no such sentence", told(text, 0, 0, 0, 0, 3).run(1, 0), -13);
        due("P22 no such sentence", told(text, 0, 0, -1).run(1, 0), -13);
        due("P22 twelve", told(text, 0, new int[24]).run(1, 1), 1);
        due("P22 thirteen", told(text, 0, new int[26]).run(1, 1), -13);
        due("P22 none", told(text, 0).run(1, 1), 0);
        HoldsOnceDenied y = told(text, 0, 0, 0, 0, 1, 3, 1, 3, 2);
        due("P22 boys are silenced by the day in mind", y.run(1, 0), 3);
        due("P22 made", y.run(1, 1), 3);
        HoldsOnceDenied z = told(text, 0, 0, 0, 3, 1);
        due("P22 and not on odd days", z.run(1, 0), 1);
        due("P22 made", z.run(1, 1), 2);
        z.die(0);
        due("P22 a dead one is left out", z.run(1, 1), 1);
    }

    private static void seeded() {
        HoldsOnceDenied x = Check.schoolOf("s;s;s;n10;n21;d00;d30;");
        for (int n = 1; n <= 40; n++) {
            for (int z = -3; z < 3; z++) {
                due("P23 seeded(" + n + ", " + z + ")", x.seeded(n, z), likewise(n, z));
            }
        }
        due("P23 in mind only", x.count(3) + x.count(2), 0);
        due("P23 one of each", Check.schoolOf("s;d00;").seeded(1, 7), 1);
        due("P23 n below", x.seeded(0, 1), -1);
        due("P23 n above", x.seeded(41, 1), -1);
        due("P23 no deniers", Check.schoolOf("s;").seeded(1, 1), -3);
        due("P23 no sentences", Check.schoolOf("d00;").seeded(1, 1), -3);
        due("P23 n ahead of that", new HoldsOnceDenied().seeded(0, 1), -1);
    }

    /** By hand: denier 0 makes a chain of 3 true, denier 1 is deaf. */
    private static int likewise(int n, int z) {
        int truth = 0;
        for (int i = 0; i < n; i++) {
            z = z * 1103515245 + 12345;
            int who = ((z & Integer.MAX_VALUE) / 65536) % 2;
            z = z * 1103515245 + 12345;
            int what = ((z & Integer.MAX_VALUE) / 65536) % 3;
            if (who == 0 && what == truth) {
                truth++;
            }
        }
        return truth;
    }

    private static void judged() {
        String text = "s;s;n10;d00;d10;d30;";
        due("P24 all is so", told(text, 0, 0, 1, 0, 0, 0, 1, 2, 0, 0, 1, 1, 1).judge(1), -4);
        due("P24 none", told(text, 0).judge(1), -4);
        due("P24 shorts", told(text, 1, 0, 0, 1).judge(1), -4);
        due("P24 ints", told(text, 2, 0, 0, 1).judge(1), -4);
        due("P24 no denier", told(text, 2, 0, 0, 1, 3, 0, 1).judge(1), 3);
        due("P24 denier below", told(text, 2, -1, 0, 1).judge(1), 0);
        due("P24 no sentence", told(text, 2, 0, 2, 1).judge(1), 1);
        due("P24 sentence below", told(text, 2, 0, -1, 1).judge(1), 1);
        due("P24 may not", told(text, 2, 0, 0, 1, 0, 0, 1).judge(1), 4);
        due("P24 silenced told wrong", told(text, 2, 0, 0, 0).judge(1), 2);
        due("P24 not silenced told wrong", told(text, 2, 0, 1, 1).judge(1), 2);
        due("P24 neither 1 nor 0", told(text, 2, 0, 0, 2).judge(1), 2);
        due("P24 not whole by two", told(text, 2, 0, 0, 1, 9).judge(1), 3);
        due("P24 not whole by one", told(text, 2, 0, 0, 1, 9, 9).judge(1), 3);
        due("P24 not whole at once", told(text, 2, 0).judge(1), 0);
        due("P24 what is ahead goes first", told(text, 2, 0, 0, 0, 9).judge(1), 2);
        HoldsOnceDenied x = told(text, 2, 0, 0, 1);
        due("P24 in mind only", x.judge(1) + x.count(3) + x.count(2), -4);
        x.seeded(40, 1);
        due("P24 whatever was in mind ahead", x.judge(1), -4);
        x.die(0);
        due("P24 a dead one may not", x.judge(1), 1);
        due("P24 no shelf", x.judge(8), -1);
        due("P24 no shelf", x.judge(-1), -1);
        due("P24 nothing", x.judge(4), -11);
        x.keep(4, 1, 0, 0);
        due("P24 a denier", x.judge(4), -12);
    }

    private static void images() {
        HoldsOnceDenied x = Check.schoolOf("s;s;n10;d00;d20;k10;x00;");
        due("P26 none", x.restore(), -3);
        due("P25 how many", x.image(), 1);
        Check.read(x, "s;s;n23;n01;d30;x11;");
        x.learns(1, 2);
        x.die(0);
        x.keep(6, 1, 4, 2);
        due("P26 how many", x.restore(), 1);
        due("P26 sentences", x.count(0), 2);
        due("P26 deniers", x.count(1), 2);
        due("P26 day", x.count(2), 1);
        due("P26 alive", x.count(4), 2);
        due("P26 knows", x.denier(1, 2), 1);
        due("P26 needs", x.sentence(0, 0), 0);
        due("P26 its denier", x.sentence(0, 2), 0);
        due("P26 its day", x.sentence(0, 3), 1);
        due("P26 shelves stay", x.price(6), 9);
        due("P26 shelves stay", x.element(0, 0), 's');
        x.die(0);
        due("P26 once more", x.restore(), 1);
        due("P26 alive again", x.denier(0, 3), 1);
        Check.read(x, "s;");
        due("P26 a sentence more needs nothing of old", x.sentence(2, 0), 0);
        x.deny(0, 1);
        due("P25 another", x.image(), 2);
        x.die(0);
        due("P26 another", x.restore(), 2);
        due("P25 of nothing", new HoldsOnceDenied().image(), 0);
        HoldsOnceDenied y = Check.schoolOf("s;");
        y.image();
        Check.read(y, "s;n01;d00;k00;");
        y.restore();
        Check.read(y, "s;d11;");
        due("P26 needs nothing", y.sentence(0, 0) + y.sentence(1, 0), 0);
        due("P26 knows nothing", y.denier(0, 2), 0);
        due("P26 who came is forgotten", y.denier(0, 0), 1);
    }

    private static void counts() {
        HoldsOnceDenied x = Check.schoolOf("s;s;s;s;n32;d00;d10;x00;t1;x13;x13;");
        x.die(1);
        due("P27 sentences", x.count(0), 4);
        due("P27 deniers", x.count(1), 2);
        due("P27 day", x.count(2), 3);
        due("P27 true ones", x.count(3), 2);
        due("P27 those alive", x.count(4), 1);
        due("P27 above", x.count(5), -1);
        due("P27 below", x.count(-1), -1);
    }
}
