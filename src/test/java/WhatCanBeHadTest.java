/** Promises 14 to 21. */
public final class WhatCanBeHadTest {
    private static final Check CHECK = new Check("WhatCanBeHadTest");

    public static void main(String[] args) {
        inTheEnd();
        soonestAndFirst();
        easiest();
        all();
        atOnce();
        hire();
        canHave();
        CHECK.finish();
    }

    private static void due(String call, long got, long want) {
        CHECK.due(call, got, want);
    }

    private static void inTheEnd() {
        due("P14 nothing", new HoldsOnceDenied().ever(), 0);
        due("P14 nobody", Check.schoolOf("s;s;t1;").ever(), 0b10);
        due("P14 a chain", Check.schoolOf("s;s;s;n01;n12;d00;").ever(), 0b111);
        due("P14 a ring", Check.schoolOf("s;s;s;n01;n10;d00;").ever(), 0b100);
        due("P14 a ring and one who knows", Check.schoolOf("s;s;s;n01;n10;d00;k01;").ever(), 0b101);
        due("P14 one helps the other", Check.schoolOf("s;s;s;n01;n10;d00;d10;k01;").ever(), 0b111);
        due("P14 deaf", Check.schoolOf("s;s;d30;").ever(), 0);
        due("P14 boy on an odd day", Check.schoolOf("s;s;s;n20;t0;d79;d00;x11;").ever(), 0b111);
        HoldsOnceDenied x = Check.schoolOf("s;s;s;n20;t0;d79;d30;x10;");
        due("P14 the day is odd", x.count(2), 1);
        due("P14 the day is looked at as even", x.ever(), 0b101);
        due("P15 the day is looked at as even", x.soonest(2), 1);
        due("P14 nothing has become true", x.count(3), 1);
        x.die(0);
        due("P14 the dead do nothing", x.ever(), 0b001);
    }

    private static void soonestAndFirst() {
        HoldsOnceDenied x = Check.schoolOf("s;s;s;s;s;n43;n42;n31;t0;d00;d00;k11;");
        due("P15 true", x.soonest(0), 0);
        due("P16 true", x.first(0), -4);
        due("P15 one", x.soonest(1), 1);
        due("P16 one", x.first(1), 1);
        due("P15 known by the other", x.soonest(3), 1);
        due("P16 known by the other", x.first(3), 3);
        due("P15 three", x.soonest(4), 3);
        due("P16 the least, though 1 could be denied", x.first(4), 2);
        due("P15 no such", x.soonest(5), -1);
        due("P15 below", x.soonest(-1), -1);
        due("P16 no such", x.first(5), -1);
        due("P16 below", x.first(-1), -1);
        due("P16 of a fresh one", Check.schoolOf("s;s;n01;d00;").first(0), 1);
        due("P16 of what needs nothing", Check.schoolOf("s;s;d00;").first(1), 1);
        HoldsOnceDenied v = Check.schoolOf("s;s;n10;d00;");
        v.deny(0, 0);
        due("P16 after a denial", v.first(1), 1);
        v.die(0);
        due("P15 after a death", v.soonest(1), -4);
        HoldsOnceDenied y = Check.schoolOf("s;s;n01;n10;d00;");
        due("P15 never", y.soonest(0), -4);
        due("P16 never", y.first(0), -4);
        due("P17 never", y.easiest(0), -4);
        due("P18 nothing to be had", y.all(), 0);
    }

    private static void easiest() {
        HoldsOnceDenied x = Check.schoolOf("s;s;s;n21;d10;d45;");
        due("P17 the fool is cheaper", x.easiest(0), 2);
        due("P17 both by the fool", x.easiest(2), 6);
        due("P17 no such", x.easiest(3), -1);
        due("P17 below", x.easiest(-1), -1);
        due("P17 true", Check.schoolOf("s;t0;d00;").easiest(0), 0);
        due("P17 a wise one takes no steps", Check.schoolOf("s;d25;d00;").easiest(0), 0);
        due("P17 hired for less", Check.schoolOf("s;s;s;n20;n21;d52;").easiest(2), 7);
        HoldsOnceDenied y = Check.schoolOf("s;s;s;s;n32;n20;n21;d00;d10;k12;");
        due("P15 fewest by the fool who knows", y.soonest(3), 1);
        due("P17 fewest steps by him, too", y.easiest(3), 4);
        HoldsOnceDenied z = Check.schoolOf("s;s;n10;d00;d79;k10;d69;k20;");
        due("P15 one denial by the boy or the old one", z.soonest(1), 1);
        due("P17 two denials of fewer steps", z.easiest(1), 3);
    }

    private static void all() {
        due("P18 nothing", new HoldsOnceDenied().all(), 0);
        due("P18 a fool and a friend", Check.schoolOf("s;s;s;n21;d10;d45;").all(), 8);
        due("P18 a denier", Check.schoolOf("s;s;s;n21;d00;").all(), 4);
        due("P18 true already", Check.schoolOf("s;s;t0;t1;d00;").all(), 0);
        HoldsOnceDenied x = Check.schoolOf("s;s;s;n10;n21;d00;d50;d21;k20;");
        due("P18 each by the cheapest", x.all(), 3);
        x.deny(0, 0);
        due("P18 after a denial", x.all(), 2);
    }

    private static void atOnce() {
        HoldsOnceDenied x = Check.schoolOf("s;s;s;n20;d00;d10;d29;");
        due("P19 two free sentences", x.atOnce(0), 2);
        due("P19 the cheapest two", x.atOnce(1), 5);
        due("P19 what above", x.atOnce(2), -1);
        due("P19 what below", x.atOnce(-1), -1);
        HoldsOnceDenied v = Check.schoolOf("s;s;s;d50;d10;");
        due("P19 three free sentences, two deniers", v.atOnce(0), 2);
        due("P19 both have their price", v.atOnce(1), 9);
        HoldsOnceDenied y = Check.schoolOf("s;s;s;d50;d41;d41;");
        due("P19 the hired one takes 0, so the friends 2", y.atOnce(0), 2);
        due("P19 prices", y.atOnce(1), 12);
        HoldsOnceDenied z = Check.schoolOf("s;s;d00;d50;");
        due("P19 room is made for the hired one", z.atOnce(0), 2);
        due("P19 prices", z.atOnce(1), 10);
        HoldsOnceDenied w = Check.schoolOf("s;s;n10;t0;d70;");
        due("P19 a boy on an even day", w.atOnce(0), 1);
        due("P19 price of a boy", w.atOnce(1), 1);
        w.row(1, 0, 0);
        Check.read(w, "d30;x11;");
        due("P19 a boy on an odd day", w.atOnce(0), 0);
        due("P19 price of nobody", w.atOnce(1), 0);
        z.die(0);
        due("P19 the dead deny nothing", z.atOnce(1), 7);
    }

    private static void hire() {
        HoldsOnceDenied one = Check.schoolOf("s;s;s;n01;n10;d00;k00;");
        due("P20 what another helps to", one.hire(5, 1), 3);
        HoldsOnceDenied x = Check.schoolOf("s;s;s;n10;");
        due("P20 a denier would do", x.hire(0, 0), 0);
        due("P20 how many", x.hire(0, 1), 3);
        due("P20 figure above", x.hire(10, 0), -1);
        due("P20 figure below", x.hire(-1, 0), -1);
        due("P20 what above", x.hire(0, 2), -1);
        due("P20 what below", x.hire(0, -1), -1);
        due("P20 nobody has come", x.count(1), 0);
        HoldsOnceDenied y = Check.schoolOf("s;s;n10;n01;d30;d30;d30;d30;d30;d30;");
        due("P20 none is better than the first", y.hire(3, 0), 0);
        due("P20 none has any", y.hire(3, 1), 0);
        HoldsOnceDenied z = Check.schoolOf("s;s;n10;d00;d30;d30;d30;d30;d30;k00;k01;");
        due("P20 without room too", z.hire(9, 1), 2);
        due("P20 it was none before", z.ever(), 0);
        z.die(1);
        due("P20 after a death", z.hire(9, 0), 0);
    }

    private static void canHave() {
        HoldsOnceDenied x = Check.schoolOf("s;s;s;n10;t0;d00;d10;d20;d30;d41;d50;x01;");
        due("P21 by all that may and hear", x.canHave(1), 0b000111);
        due("P21 the founder's", x.canHave(0), 0b110111);
        due("P21 not true", x.canHave(2), -3);
        due("P21 no such", x.canHave(3), -1);
        due("P21 below", x.canHave(-1), -1);
        x.die(2);
        due("P21 dead ones as if alive", x.canHave(0), 0b110111);
        due("P21 not by a deaf one", Check.schoolOf("s;d30;d00;x10;").canHave(0), 0b10);
        HoldsOnceDenied y = Check.schoolOf("s;s;n10;d00;k00;d00;d60;d61;d79;x01;");
        due("P21 what he needs he must know", y.canHave(1), 0b00001);
        due("P21 on an odd day", y.count(2), 1);
        y.learns(4, 0);
        due("P21 a boy, for the day is taken as even", y.canHave(1), 0b10001);
        y.learns(4, 1);
        due("P21 what is known of it does not matter", y.canHave(1), 0b10001);
        y.learns(2, 0);
        due("P21 an old one", y.canHave(1), 0b10101);
        due("P21 nothing has changed", y.sentence(1, 1), 1);
        due("P21 knows as before", y.denier(4, 2), 3);
    }
}
