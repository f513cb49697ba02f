import java.util.function.ToIntBiFunction;
import java.util.function.ToLongFunction;

/** All that can be seen of an object, and whether a call changes any of it. */
final class Whole {
    private static final int SHELVES = 8;
    private static String asRich = "";

    private Whole() {
    }

    /** A school with something of everything, an image of another one, shelves with a denier, rows of each sort, nothing. */
    static HoldsOnceDenied rich() {
        HoldsOnceDenied x = Check.schoolOf("s;s;s;s;n10;n21;n32;d00;d15;k02;x00;");
        x.image();
        Check.read(x, "t3;d71;d30;d64;k13;x01;x30;");
        x.die(4);
        Check.fill(x, 1, 0, 1, 2, 3);
        Check.fill(x, 2, 1, 300, 2);
        Check.fill(x, 3, 2, 70000, 2);
        x.keep(4, 1, 6, 5);
        Check.fill(x, 5, 0, 0, 0, 2);
        x.row(6, 0, 0);
        return x;
    }

    /** Uses the object up: the image is looked at by restoring it. */
    static String seen(HoldsOnceDenied x) {
        StringBuilder all = new StringBuilder();
        school(x, all);
        shelves(x, all);
        all.append(" image ").append(x.restore());
        school(x, all);
        return all.toString();
    }

    private static void school(HoldsOnceDenied x, StringBuilder all) {
        for (int what = 0; what < 5; what++) {
            all.append(' ').append(x.count(what));
        }
        for (int s = 0; s < x.count(0); s++) {
            for (int what = 0; what < 4; what++) {
                all.append(' ').append(x.sentence(s, what));
            }
        }
        for (int i = 0; i < x.count(1); i++) {
            for (int what = 0; what < 5; what++) {
                all.append(' ').append(x.denier(i, what));
            }
        }
    }

    /** Sorts are seen by copying nothing from one row to another. */
    private static void shelves(HoldsOnceDenied x, StringBuilder all) {
        for (int d = 0; d < SHELVES; d++) {
            all.append(" shelf ").append(x.price(d)).append(' ').append(x.toss(d));
            for (int e = 0; e < SHELVES; e++) {
                all.append(' ').append(x.copy(d, 0, e, 0, 0));
            }
            for (int i = 0; Check.thrownAtElement(x, d, i) == 0; i++) {
                all.append(' ').append(x.element(d, i));
            }
        }
    }

    /** The answer of the call on a rich object, and, as one more answer, that nothing of the object is changed by it. */
    static void unchanged(Said said, String what, long want, ToLongFunction<HoldsOnceDenied> call) {
        if (asRich.isEmpty()) {
            asRich = seen(rich());
        }
        HoldsOnceDenied x = rich();
        said.due(what, call.applyAsLong(x), want);
        said.holds(what + " changes nothing", seen(x).equals(asRich));
    }

    /** Numbers just and far outside 0 .. n - 1, those among them that would be within if bits were cut off. */
    static int[] outside(int n) {
        return new int[] {Integer.MIN_VALUE, Integer.MIN_VALUE + 1, -65536, -256, -2, -1, n, n + 1, n + 31, 256, 65536, 1 << 30,
            Integer.MAX_VALUE - 1, Integer.MAX_VALUE};
    }

    /** That the call refuses by -1 whatever is not one of 0 .. n - 1, and changes nothing. */
    static void refusesOutside(Said said, String what, int n, ToIntBiFunction<HoldsOnceDenied, Integer> call) {
        for (int outside : outside(n)) {
            unchanged(said, what + " " + outside, -1, x -> call.applyAsInt(x, outside));
        }
    }
}
