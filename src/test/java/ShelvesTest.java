/** Promises 28 to 34. */
public final class ShelvesTest {
    private static final Check CHECK = new Check("ShelvesTest");

    public static void main(String[] args) {
        keeps();
        rows();
        puts();
        elements();
        copies();
        prices();
        tosses();
        CHECK.finish();
    }

    private static void due(String call, long got, long want) {
        CHECK.due(call, got, want);
    }

    private static void keeps() {
        HoldsOnceDenied x = new HoldsOnceDenied();
        due("P28 a denier", x.keep(7, 1, 7, 9), 0);
        due("P28 it is there", x.price(7), 15);
        due("P28 nothing", x.keep(7, 0, -5, 77), 0);
        due("P28 it is gone", x.price(7), -11);
        x.row(0, 0, 3);
        due("P28 in place of a row", x.keep(0, 1, 2, 3), 0);
        due("P28 no row there", x.put(0, 0, 0), -12);
        due("P28 kind above", x.keep(0, 1, 8, 0), -1);
        due("P28 kind below", x.keep(0, 1, -1, 0), -1);
        due("P28 figure above", x.keep(0, 1, 0, 10), -1);
        due("P28 figure below", x.keep(0, 1, 0, -1), -1);
        due("P28 what above", x.keep(0, 2, 0, 0), -1);
        due("P28 what below", x.keep(0, -1, 0, 0), -1);
        due("P28 shelf above", x.keep(8, 0, 0, 0), -1);
        due("P28 shelf below", x.keep(-1, 1, 0, 0), -1);
        due("P28 refused changes nothing", x.price(0), 6);
        x.row(1, 0, 1);
        x.keep(1, 0, 0, 0);
        due("P28 a row is gone", x.put(1, 0, 0), -11);
    }

    private static void rows() {
        HoldsOnceDenied x = new HoldsOnceDenied();
        due("P29 of none", x.row(0, 0, 0), 0);
        due("P29 no place", x.put(0, 0, 1), -13);
        due("P29 of 100", x.row(7, 2, 100), 0);
        due("P29 zero at first", x.element(7, 99), 0);
        x.put(7, 99, 5);
        due("P29 again", x.row(7, 2, 100), 0);
        due("P29 zero again", x.element(7, 99), 0);
        due("P29 above 100", x.row(7, 2, 101), -1);
        due("P29 below 0", x.row(7, 2, -1), -14);
        due("P29 far below 0", x.row(7, 2, Integer.MIN_VALUE), -14);
        due("P29 sort above", x.row(7, 3, -1), -1);
        due("P29 sort below", x.row(7, -1, 1), -1);
        due("P29 shelf above", x.row(8, 0, -1), -1);
        due("P29 shelf below", x.row(-1, 0, 1), -1);
        due("P29 refused changes nothing", x.put(7, 99, 5), 0);
        x.keep(1, 1, 0, 0);
        x.row(1, 0, 1);
        due("P29 in place of a denier", x.price(1), -12);
    }

    private static void puts() {
        HoldsOnceDenied x = new HoldsOnceDenied();
        int[] given = {127, 128, 255, 256, -129, 32768, 65535, Integer.MIN_VALUE, -1};
        long[][] kept = {{127, -128, -1, 0, 127, 0, -1, 0, -1},
            {127, 128, 255, 256, -129, -32768, -1, 0, -1},
            {127, 128, 255, 256, -129, 32768, 65535, Integer.MIN_VALUE, -1}};
        for (int sort = 0; sort < 3; sort++) {
            x.row(2, sort, given.length);
            for (int i = 0; i < given.length; i++) {
                due("P30 put", x.put(2, i, given[i]), 0);
            }
            for (int i = 0; i < given.length; i++) {
                due("P30 sort " + sort + " of " + given[i], x.element(2, i), kept[sort][i]);
            }
        }
        due("P30 place above", x.put(2, 9, 0), -13);
        due("P30 place below", x.put(2, -1, 0), -13);
        due("P30 shelf above", x.put(8, 0, 0), -1);
        due("P30 shelf below", x.put(-1, 0, 0), -1);
        due("P30 nothing", x.put(3, -1, 0), -11);
        x.keep(3, 1, 0, 0);
        due("P30 a denier", x.put(3, -1, 0), -12);
    }

    private static void elements() {
        HoldsOnceDenied x = new HoldsOnceDenied();
        x.row(4, 1, 2);
        x.put(4, 1, -7);
        due("P31 element", x.element(4, 1), -7);
        due("P31 none thrown", Check.thrownAtElement(x, 4, 0), 0);
        due("P31 shelf above", Check.thrownAtElement(x, 8, 0), 1);
        due("P31 shelf below", Check.thrownAtElement(x, -1, 0), 1);
        due("P31 nothing", Check.thrownAtElement(x, 5, 0), 2);
        due("P31 place above", Check.thrownAtElement(x, 4, 2), 2);
        due("P31 place below", Check.thrownAtElement(x, 4, -1), 2);
        x.keep(5, 1, 0, 0);
        due("P31 a denier", Check.thrownAtElement(x, 5, 0), 2);
    }

    private static void copies() {
        HoldsOnceDenied x = new HoldsOnceDenied();
        Check.fill(x, 0, 0, 1, 2, 3, 4, 5);
        Check.fill(x, 1, 0, 9, 9, 9);
        due("P32 copy", x.copy(0, 1, 1, 0, 2), 2);
        due("P32 came", x.element(1, 0) * 100 + x.element(1, 1) * 10 + x.element(1, 2), 239);
        due("P32 stays", x.element(0, 1), 2);
        due("P32 up in itself", x.copy(0, 0, 0, 1, 4), 4);
        due("P32 up", x.element(0, 1) * 1000 + x.element(0, 2) * 100 + x.element(0, 3) * 10 + x.element(0, 4), 1234);
        due("P32 down in itself", x.copy(0, 1, 0, 0, 4), 4);
        due("P32 down", x.element(0, 0) * 1000 + x.element(0, 1) * 100 + x.element(0, 2) * 10 + x.element(0, 3), 1234);
        due("P32 none at the end", x.copy(0, 5, 1, 3, 0), 0);
        due("P32 past the end", x.copy(0, 6, 1, 3, 0), -13);
        due("P32 past the other's end", x.copy(0, 5, 1, 4, 0), -13);
        due("P32 too many", x.copy(0, 3, 1, 0, 3), -13);
        due("P32 too many there", x.copy(0, 0, 1, 1, 3), -13);
        due("P32 below 0", x.copy(0, 0, 1, 0, -1), -13);
        due("P32 from below 0", x.copy(0, -1, 1, 0, 1), -13);
        due("P32 to below 0", x.copy(0, 0, 1, -1, 1), -13);
        due("P32 far", x.copy(0, Integer.MAX_VALUE, 1, 0, Integer.MAX_VALUE), -13);
        due("P32 far there", x.copy(0, 0, 1, Integer.MAX_VALUE, 1), -13);
        due("P32 shelf", x.copy(8, 0, 1, 0, 1), -1);
        due("P32 shelf there", x.copy(3, 0, -1, 0, 1), -1);
        due("P32 nothing", x.copy(3, 0, 1, 0, 1), -11);
        x.keep(4, 1, 0, 0);
        due("P32 nothing there, a denier here", x.copy(4, 0, 3, 0, 1), -11);
        due("P32 a denier", x.copy(4, 0, 1, 0, 1), -12);
        due("P32 a denier there", x.copy(0, 0, 4, 0, 1), -12);
        x.row(5, 1, 5);
        due("P32 another sort", x.copy(0, -1, 5, 0, 1), -12);
        due("P32 refused changes nothing", x.element(5, 0) + x.element(1, 0), 2);
        Check.fill(x, 6, 1, 300);
        due("P32 shorts", x.copy(6, 0, 5, 4, 1), 1);
        due("P32 a short", x.element(5, 4), 300);
    }

    private static void prices() {
        HoldsOnceDenied x = new HoldsOnceDenied();
        int[] of4 = {3, 2, 7, 4, 15, 7, 5, 7};
        int[] of0 = {3, 2, 3, 4, 3, 7, 1, 1};
        for (int kind = 0; kind < 8; kind++) {
            x.keep(2, 1, kind, 4);
            due("P33 of kind " + kind, x.price(2), of4[kind]);
            x.keep(2, 1, kind, 0);
            due("P33 of kind " + kind, x.price(2), of0[kind]);
        }
        due("P33 shelf above", x.price(8), -1);
        due("P33 shelf below", x.price(-1), -1);
        due("P33 nothing", x.price(0), -11);
        x.row(0, 0, 1);
        due("P33 a row", x.price(0), -12);
    }

    private static void tosses() {
        HoldsOnceDenied x = new HoldsOnceDenied();
        int[] of4 = {4, 104, 4, -15, 4, 4, 205, 4};
        for (int kind = 0; kind < 8; kind++) {
            x.keep(2, 1, kind, 4);
            due("P34 of kind " + kind, x.toss(2), of4[kind]);
            due("P34 again", x.toss(2), of4[kind]);
            x.keep(2, 1, kind, 0);
            due("P34 of kind " + kind, x.toss(2), -15);
        }
        due("P34 shelf above", x.toss(8), -1);
        due("P34 shelf below", x.toss(-1), -1);
        due("P34 nothing", x.toss(0), -11);
        x.row(0, 0, 1);
        due("P34 a row", x.toss(0), -12);
    }
}
