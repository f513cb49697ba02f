/** Promises 28 to 34, each by its own words, on the rich object of Whole wherever nothing else is told. */
final class PromisesOfShelves {
    private final Said said;

    PromisesOfShelves(Said said) {
        this.said = said;
    }

    void look() {
        keep();
        row();
        put();
        element();
        copy();
        copyRefused();
        price();
        toss();
    }

    private void keep() {
        said.at("Promise 28");
        said.that("SHELF d gets: what = 0 nothing (the others do not matter); 1 a DENIER of KIND k with a FIGURE: 0.");
        HoldsOnceDenied x = Whole.rich();
        said.due("nothing in place of a row", x.keep(1, 0, 0, 0), 0);
        said.due("nothing there", x.put(1, 0, 0), -11);
        said.due("nothing in place of a denier", x.keep(4, 0, Integer.MIN_VALUE, Integer.MAX_VALUE), 0);
        said.due("nothing there", x.price(4), -11);
        said.due("nothing in place of nothing", x.keep(7, 0, 8, 10), 0);
        for (int kind = 0; kind < 8; kind++) {
            for (int figure = 0; figure < 10; figure += 9) {
                said.due("kind " + kind + ", figure " + figure, x.keep(kind, 1, kind, figure), 0);
                HoldsOnceDenied y = new HoldsOnceDenied();
                y.keep(7 - kind, 1, kind, figure);
                y.comes(7 - kind);
                said.due("kind, figure", y.denier(0, 0) * 10 + y.denier(0, 1), kind * 10 + figure);
            }
        }
        said.due("nobody has come by it", x.count(1), 5);
        said.due("a denier in place of a row", x.put(2, 0, 0), -12);
        said.that("-1.");
        Whole.refusesOutside(said, "shelf, nothing,", 8, (y, d) -> y.keep(d, 0, 0, 0));
        Whole.refusesOutside(said, "shelf, a denier,", 8, (y, d) -> y.keep(d, 1, 0, 0));
        Whole.refusesOutside(said, "what", 2, (y, what) -> y.keep(7, what, 0, 0));
        Whole.refusesOutside(said, "kind", 8, (y, kind) -> y.keep(7, 1, kind, 0));
        Whole.refusesOutside(said, "kind, where a row is,", 8, (y, kind) -> y.keep(1, 1, kind, 0));
        Whole.refusesOutside(said, "figure", 10, (y, figure) -> y.keep(4, 1, 7, figure));
    }

    private void row() {
        said.at("Promise 29");
        said.that("SHELF d gets a ROW of a SORT: 0.");
        HoldsOnceDenied x = Whole.rich();
        for (int d = 0; d < 8; d++) {
            for (int sort = 0; sort < 3; sort++) {
                said.due("shelf " + d + ", sort " + sort, x.row(d, sort, 2), 0);
                x.put(d, 1, 65536 + 256 + 1);
                said.due("its sort", x.element(d, 1), sort == 0 ? 1 : sort == 1 ? 257 : 65793);
                said.due("0 at first", x.element(d, 0), 0);
            }
        }
        said.due("a new one in place of the old one", x.row(0, 2, 2), 0);
        said.due("0 at first again", x.element(0, 1), 0);
        said.due("none", x.row(0, 0, 0), 0);
        said.due("a hundred", x.row(0, 0, 100), 0);
        said.due("the hundredth", x.put(0, 99, 1), 0);
        said.that("-1 (n above 100); -14.");
        Whole.refusesOutside(said, "shelf", 8, (y, d) -> y.row(d, 0, 1));
        Whole.refusesOutside(said, "shelf, n below 0,", 8, (y, d) -> y.row(d, 0, -1));
        Whole.refusesOutside(said, "sort", 3, (y, sort) -> y.row(1, sort, 1));
        Whole.refusesOutside(said, "sort, n below 0,", 3, (y, sort) -> y.row(4, sort, -1));
        Whole.refusesOutside(said, "shelf, n above,", 8, (y, d) -> y.row(d, 0, 101));
        for (int n : Whole.outside(101)) {
            Whole.unchanged(said, "n " + n, n > 0 ? -1 : -14, y -> y.row(1, 0, n));
            Whole.unchanged(said, "n " + n + " where nothing is", n > 0 ? -1 : -14, y -> y.row(7, 2, n));
        }
    }

    private void put() {
        said.at("Promise 30");
        said.that("Element i of the ROW becomes v: 0.");
        HoldsOnceDenied x = Whole.rich();
        said.due("the first", x.put(1, 0, -128), 0);
        said.due("the last", x.put(1, 2, 127), 0);
        said.due("the first is", x.element(1, 0), -128);
        said.due("between is as it was", x.element(1, 1), 2);
        said.due("the last is", x.element(1, 2), 127);
        said.due("cut to its sort", x.put(1, 1, 128), 0);
        said.due("it is cut", x.element(1, 1), -128);
        said.due("an int is not", x.put(3, 1, Integer.MIN_VALUE), 0);
        said.due("it is", x.element(3, 1), Integer.MIN_VALUE);
        said.due("no other row", x.element(2, 1), 2);
        said.that("-1, -11, -12, -13.");
        Whole.refusesOutside(said, "shelf", 8, (y, d) -> y.put(d, 0, 1));
        Whole.refusesOutside(said, "shelf, no place,", 8, (y, d) -> y.put(d, -1, 1));
        for (int i : Whole.outside(3)) {
            Whole.unchanged(said, "place " + i, -13, y -> y.put(1, i, 1));
            Whole.unchanged(said, "place " + i + " of nothing", -11, y -> y.put(7, i, 1));
            Whole.unchanged(said, "place " + i + " of a denier", -12, y -> y.put(4, i, 1));
        }
        Whole.unchanged(said, "nothing", -11, y -> y.put(7, 0, 1));
        Whole.unchanged(said, "a denier", -12, y -> y.put(4, 0, 1));
        Whole.unchanged(said, "a row of none", -13, y -> y.put(6, 0, 1));
    }

    private void element() {
        said.at("Promise 31");
        said.that("Element i of the ROW.");
        Whole.unchanged(said, "a byte", 1, x -> x.element(1, 0));
        Whole.unchanged(said, "the last byte", 3, x -> x.element(1, 2));
        Whole.unchanged(said, "a short", 300, x -> x.element(2, 0));
        Whole.unchanged(said, "an int", 70000, x -> x.element(3, 0));
        said.that("IllegalArgumentException: no such SHELF; IllegalStateException: no ROW, no such place.");
        for (int d : Whole.outside(8)) {
            Whole.unchanged(said, "shelf " + d, 1, x -> Check.thrownAtElement(x, d, 0));
            Whole.unchanged(said, "shelf " + d + ", no place", 1, x -> Check.thrownAtElement(x, d, -1));
        }
        for (int i : Whole.outside(3)) {
            Whole.unchanged(said, "place " + i, 2, x -> Check.thrownAtElement(x, 1, i));
        }
        Whole.unchanged(said, "nothing", 2, x -> Check.thrownAtElement(x, 7, 0));
        Whole.unchanged(said, "a denier", 2, x -> Check.thrownAtElement(x, 4, 0));
        Whole.unchanged(said, "a row of none", 2, x -> Check.thrownAtElement(x, 6, 0));
        Whole.unchanged(said, "the first and the last place throw nothing", 0,
            x -> Check.thrownAtElement(x, 1, 0) + Check.thrownAtElement(x, 1, 2));
    }

    private static long digits(HoldsOnceDenied x, int d, int n) {
        long sum = 0;
        for (int i = 0; i < n; i++) {
            sum = sum * 10 + x.element(d, i);
        }
        return sum;
    }

    private void copy() {
        said.at("Promise 32");
        said.that("n elements of the ROW in SHELF d from i on come to that in SHELF e from j on: n.");
        HoldsOnceDenied x = new HoldsOnceDenied();
        for (int sort = 0; sort < 3; sort++) {
            Check.fill(x, 0, sort, 1, 2, 3, 4, 5);
            Check.fill(x, 7, sort, 9, 9, 9);
            said.due("two", x.copy(0, 3, 7, 0, 2), 2);
            said.due("they came", digits(x, 7, 3), 459);
            said.due("they stay", digits(x, 0, 5), 12345);
            said.due("back", x.copy(7, 0, 0, 0, 3), 3);
            said.due("all came", digits(x, 0, 5), 45945);
            said.due("one to the end", x.copy(0, 2, 7, 2, 1), 1);
            said.due("it came", digits(x, 7, 3), 459);
            Check.fill(x, 0, sort, 1, 2, 3, 4, 5);
            said.due("up within one row", x.copy(0, 0, 0, 1, 4), 4);
            said.due("as it was", digits(x, 0, 5), 11234);
            said.due("down within one row", x.copy(0, 1, 0, 0, 4), 4);
            said.due("as it was", digits(x, 0, 5), 12344);
            said.due("all onto itself", x.copy(0, 0, 0, 0, 5), 5);
            said.due("as it was", digits(x, 0, 5), 12344);
        }
        Whole.unchanged(said, "none", 0, y -> y.copy(1, 0, 5, 0, 0));
        Whole.unchanged(said, "none from the end to the end", 0, y -> y.copy(1, 3, 5, 3, 0));
        Whole.unchanged(said, "none of none", 0, y -> y.copy(6, 0, 6, 0, 0));
        x.row(1, 1, 100);
        x.row(2, 1, 100);
        x.put(1, 99, -5);
        said.due("a hundred", x.copy(1, 0, 2, 0, 100), 100);
        said.due("the last came", x.element(2, 99), -5);
    }

    private void copyRefused() {
        said.that("-1, -11 (either), -12 (no ROWS of one SORT), -13 (n below 0, too).");
        Whole.refusesOutside(said, "shelf from", 8, (y, d) -> y.copy(d, 0, 1, 0, 1));
        Whole.refusesOutside(said, "shelf to", 8, (y, e) -> y.copy(1, 0, e, 0, 1));
        Whole.refusesOutside(said, "shelf from, nothing there,", 8, (y, d) -> y.copy(d, 0, 7, 0, 1));
        Whole.refusesOutside(said, "shelf to, nothing here,", 8, (y, e) -> y.copy(7, 0, e, 0, 1));
        Whole.refusesOutside(said, "shelf to, a denier here,", 8, (y, e) -> y.copy(4, -1, e, -1, -1));
        Whole.unchanged(said, "nothing here", -11, y -> y.copy(7, 0, 1, 0, 1));
        Whole.unchanged(said, "nothing there", -11, y -> y.copy(1, 0, 7, 0, 1));
        Whole.unchanged(said, "nothing here, a denier there", -11, y -> y.copy(7, 0, 4, 0, 1));
        Whole.unchanged(said, "a denier here, nothing there", -11, y -> y.copy(4, 0, 7, 0, 1));
        Whole.unchanged(said, "nothing, and no place", -11, y -> y.copy(1, -1, 7, -1, -1));
        Whole.unchanged(said, "a denier here", -12, y -> y.copy(4, 0, 1, 0, 1));
        Whole.unchanged(said, "a denier there", -12, y -> y.copy(1, 0, 4, 0, 1));
        Whole.unchanged(said, "deniers", -12, y -> y.copy(4, 0, 4, 0, 0));
        int[][] unlike = {{1, 2}, {1, 3}, {2, 1}, {2, 3}, {3, 1}, {3, 2}};
        for (int[] pair : unlike) {
            Whole.unchanged(said, "from " + pair[0] + " to " + pair[1], -12, y -> y.copy(pair[0], 0, pair[1], 0, 1));
            Whole.unchanged(said, "from " + pair[0] + " to " + pair[1] + ", no place", -12, y -> y.copy(pair[0], -1, pair[1], 9, -1));
        }
        for (int i : Whole.outside(4)) {
            Whole.unchanged(said, "from place " + i + ", none", -13, y -> y.copy(1, i, 5, 0, 0));
            Whole.unchanged(said, "to place " + i + ", none", -13, y -> y.copy(1, 0, 5, i, 0));
            Whole.unchanged(said, i + " of three", -13, y -> y.copy(1, 0, 5, 0, i));
        }
        Whole.unchanged(said, "one from the end", -13, y -> y.copy(1, 3, 5, 0, 1));
        Whole.unchanged(said, "one to the end", -13, y -> y.copy(1, 0, 5, 3, 1));
        Whole.unchanged(said, "three from 1 on", -13, y -> y.copy(1, 1, 5, 0, 3));
        Whole.unchanged(said, "three to 1 on", -13, y -> y.copy(1, 0, 5, 1, 3));
        Whole.unchanged(said, "a sum beyond all ints here", -13, y -> y.copy(1, 1, 5, 0, Integer.MAX_VALUE));
        Whole.unchanged(said, "a sum beyond all ints there", -13, y -> y.copy(1, 0, 5, Integer.MAX_VALUE, 1));
        Whole.unchanged(said, "sums beyond all ints", -13, y -> y.copy(1, Integer.MAX_VALUE, 5, Integer.MAX_VALUE, Integer.MAX_VALUE));
        Whole.unchanged(said, "one of none", -13, y -> y.copy(6, 0, 1, 0, 1));
        Whole.unchanged(said, "one to none", -13, y -> y.copy(1, 0, 6, 0, 1));
    }

    private void price() {
        said.at("Promise 33");
        said.that("PRICE of the DENIER on SHELF d.");
        Whole.unchanged(said, "an old one", 6, x -> x.price(4));
        for (int d = 0; d < 8; d++) {
            HoldsOnceDenied x = Whole.rich();
            x.keep(d, 1, 4, d);
            said.due("a friend on shelf " + d, x.price(d), 3 * (d + 1));
        }
        said.that("-1, -11, -12 (a ROW).");
        Whole.refusesOutside(said, "shelf", 8, (x, d) -> x.price(d));
        Whole.unchanged(said, "nothing", -11, x -> x.price(7));
        for (int d : new int[] {0, 1, 2, 3, 6}) {
            Whole.unchanged(said, "a row on " + d, -12, x -> x.price(d));
        }
    }

    private void tossed(int kind, int... byFigures) {
        int[] figures = {1, 2, 9};
        for (int f = 0; f < figures.length; f++) {
            HoldsOnceDenied x = new HoldsOnceDenied();
            x.keep(3, 1, kind, figures[f]);
            said.due("kind " + kind + ", figure " + figures[f], x.toss(3), byFigures[f]);
            said.due("once more", x.toss(3), byFigures[f]);
            said.holds("he stays on the shelf", x.price(3) > 0);
        }
    }

    private void toss() {
        said.at("Promise 34");
        said.that("The FAILURE of the DENIER on SHELF d is thrown, and caught: its FIGURE");
        tossed(0, 1, 2, 9);
        tossed(2, 1, 2, 9);
        tossed(4, 1, 2, 9);
        tossed(5, 1, 2, 9);
        tossed(7, 1, 2, 9);
        said.that("of FOOLS 100 more");
        tossed(1, 101, 102, 109);
        said.that("of OLD ones 200 plus their PRICE, in place of all that (FIGURE, too).");
        tossed(6, 202, 203, 210);
        Whole.unchanged(said, "an old one", 206, x -> x.toss(4));
        said.that("-1, -11, -12 (a ROW)");
        Whole.refusesOutside(said, "shelf", 8, (x, d) -> x.toss(d));
        Whole.unchanged(said, "nothing", -11, x -> x.toss(7));
        for (int d : new int[] {0, 1, 2, 3, 6}) {
            Whole.unchanged(said, "a row on " + d, -12, x -> x.toss(d));
        }
        said.that("-15: DEAF ones, and any with FIGURE 0, have none.");
        HoldsOnceDenied x = new HoldsOnceDenied();
        for (int figure = 0; figure < 10; figure++) {
            x.keep(0, 1, 3, figure);
            said.due("a deaf one, figure " + figure, x.toss(0), -15);
        }
        for (int kind = 0; kind < 8; kind++) {
            x.keep(0, 1, kind, 0);
            said.due("figure 0 of kind " + kind, x.toss(0), -15);
        }
    }
}
