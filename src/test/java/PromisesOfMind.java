/** Promises 14 to 27, each by its own words, on the rich object of Whole wherever nothing else is told. */
final class PromisesOfMind {
    private final Said said;

    PromisesOfMind(Said said) {
        this.said = said;
    }

    void look() {
        ever();
        soonest();
        first();
        easiest();
        all();
        atOnce();
        hire();
        canHave();
        run();
        seeded();
        judge();
        image();
        restore();
        count();
    }

    private void ever() {
        said.at("Promise 14");
        said.that("EVER (bits).");
        Whole.unchanged(said, "all", 0b1111, x -> x.ever());
        HoldsOnceDenied x = Whole.rich();
        x.die(1);
        said.due("a boy on an odd day", x.ever(), 0b1111);
        x.die(2);
        said.due("the denier knows it, the deaf one is not silenced", x.ever(), 0b1011);
        said.due("none of nothing", new HoldsOnceDenied().ever(), 0);
    }

    private void soonest() {
        said.at("Promise 15");
        said.that("SOONEST; -4.");
        Whole.unchanged(said, "it is", 0, x -> x.soonest(3));
        Whole.unchanged(said, "one", 1, x -> x.soonest(2));
        HoldsOnceDenied x = Whole.rich();
        x.die(0);
        said.due("three now", x.soonest(2), 3);
        x.die(1);
        said.due("none", x.soonest(2), -4);
        said.due("none of a fresh one", Check.schoolOf("s;").soonest(0), -4);
        said.that("-1.");
        Whole.refusesOutside(said, "sentence", 4, (y, s) -> y.soonest(s));
        said.due("no sentences", new HoldsOnceDenied().soonest(0), -1);
    }

    private void first() {
        said.at("Promise 16");
        said.that("FIRST; -4.");
        Whole.unchanged(said, "it is", -4, x -> x.first(3));
        Whole.unchanged(said, "itself", 2, x -> x.first(2));
        HoldsOnceDenied x = Whole.rich();
        x.die(0);
        said.due("the first of three", x.first(2), 0);
        x.die(1);
        said.due("none", x.first(2), -4);
        said.due("none of a fresh one", Check.schoolOf("s;").first(0), -4);
        said.that("-1.");
        Whole.refusesOutside(said, "sentence", 4, (y, s) -> y.first(s));
        said.due("no sentences", new HoldsOnceDenied().first(0), -1);
    }

    private void easiest() {
        said.at("Promise 17");
        said.that("EASIEST; -4.");
        Whole.unchanged(said, "it is", 0, x -> x.easiest(3));
        Whole.unchanged(said, "by the fool", 4, x -> x.easiest(2));
        HoldsOnceDenied x = Whole.rich();
        x.die(0);
        said.due("three by the fool", x.easiest(2), 2 + 4 + 4);
        x.die(1);
        said.due("none", x.easiest(2), -4);
        said.due("none of a fresh one", Check.schoolOf("s;").easiest(0), -4);
        said.that("-1.");
        Whole.refusesOutside(said, "sentence", 4, (y, s) -> y.easiest(s));
        said.due("no sentences", new HoldsOnceDenied().easiest(0), -1);
    }

    private void all() {
        said.at("Promise 18");
        said.that("ALL.");
        Whole.unchanged(said, "by the fool", 4, x -> x.all());
        HoldsOnceDenied x = Whole.rich();
        x.die(1);
        said.due("by the boy", x.all(), 6);
        x.die(2);
        said.due("nothing more is to be had", x.all(), 0);
        said.due("none of nothing", new HoldsOnceDenied().all(), 0);
    }

    private void atOnce() {
        said.at("Promise 19");
        said.that("AT ONCE: how many (what 0), PRICES (1).");
        Whole.unchanged(said, "how many", 1, x -> x.atOnce(0));
        Whole.unchanged(said, "prices", 2, x -> x.atOnce(1));
        HoldsOnceDenied x = Whole.rich();
        x.die(1);
        said.due("the boy on an odd day", x.atOnce(0), 0);
        said.due("nobody's price", x.atOnce(1), 0);
        x.deny(3, 0);
        said.due("the boy on an even day", x.atOnce(0), 1);
        said.due("the boy's price", x.atOnce(1), 3);
        said.due("how many of nothing", new HoldsOnceDenied().atOnce(0), 0);
        said.due("prices of nothing", new HoldsOnceDenied().atOnce(1), 0);
        said.that("-1.");
        Whole.refusesOutside(said, "what", 2, (y, what) -> y.atOnce(what));
        said.due("of nothing", new HoldsOnceDenied().atOnce(2), -1);
    }

    private void hire() {
        said.at("Promise 20");
        said.that("HIRE: the KIND (what 0), how many (1).");
        Whole.unchanged(said, "the kind", 0, x -> x.hire(4, 0));
        Whole.unchanged(said, "how many", 4, x -> x.hire(4, 1));
        HoldsOnceDenied x = Whole.rich();
        x.die(2);
        x.die(1);
        said.due("with figure 0", x.hire(0, 1), 4);
        said.due("with figure 9", x.hire(9, 1), 4);
        said.that("-1.");
        Whole.refusesOutside(said, "figure", 10, (y, figure) -> y.hire(figure, 0));
        Whole.refusesOutside(said, "figure, how many,", 10, (y, figure) -> y.hire(figure, 1));
        Whole.refusesOutside(said, "what", 2, (y, what) -> y.hire(0, what));
    }

    private void canHave() {
        said.at("Promise 21");
        said.that("CAN HAVE (bits).");
        Whole.unchanged(said, "of what needs nothing", 0b10011, x -> x.canHave(0));
        Whole.unchanged(said, "of what needs what is true", 0b10011, x -> x.canHave(1));
        Whole.unchanged(said, "of what needs what is not true", 0b00001, x -> x.canHave(3));
        said.that("-1, -3 it is not TRUE.");
        Whole.refusesOutside(said, "sentence", 4, (x, s) -> x.canHave(s));
        Whole.unchanged(said, "not true", -3, x -> x.canHave(2));
        HoldsOnceDenied fell = Whole.rich();
        fell.die(0);
        said.due("fallen", fell.canHave(0), -3);
        said.due("nobody can", Check.schoolOf("s;t0;").canHave(0), 0);
    }

    private static HoldsOnceDenied told(int... denials) {
        HoldsOnceDenied x = Whole.rich();
        Check.fill(x, 7, 0, denials);
        return x;
    }

    private void run() {
        said.at("Promise 22");
        said.that("RUN by the ROW in SHELF d: how many TRUE (what 0), how many made (1).");
        Whole.unchanged(said, "no denials, how many true", 3, x -> x.run(6, 0));
        Whole.unchanged(said, "no denials, how many made", 0, x -> x.run(6, 1));
        HoldsOnceDenied x = told(3, 0, 1, 2, 4, 2, 0, 0);
        said.due("how many true", x.run(7, 0), 4);
        said.due("how many made", x.run(7, 1), 2);
        said.due("in mind", x.count(3) * 10 + x.count(2), 33);
        Check.fill(x, 7, 0, 3, 0, 2, 2);
        said.due("the boy on an even day", x.run(7, 0), 4);
        Check.fill(x, 7, 0, 2, 2);
        said.due("the boy on an odd day", x.run(7, 0), 3);
        said.due("made all the same", x.run(7, 1), 1);
        said.that("-1, and of the ROW.");
        Whole.refusesOutside(said, "shelf", 8, (y, d) -> y.run(d, 0));
        Whole.refusesOutside(said, "shelf, made,", 8, (y, d) -> y.run(d, 1));
        Whole.refusesOutside(said, "what", 2, (y, what) -> y.run(6, what));
        Whole.refusesOutside(said, "what, of nothing,", 2, (y, what) -> y.run(7, what));
        Whole.refusesOutside(said, "what, of a denier,", 2, (y, what) -> y.run(4, what));
        Whole.refusesOutside(said, "what, of shorts,", 2, (y, what) -> y.run(2, what));
        Whole.refusesOutside(said, "what, of an odd size,", 2, (y, what) -> y.run(1, what));
        for (int what = 0; what < 2; what++) {
            int told = what;
            Whole.unchanged(said, "nothing", -11, y -> y.run(7, told));
            Whole.unchanged(said, "a denier", -12, y -> y.run(4, told));
            Whole.unchanged(said, "shorts", -12, y -> y.run(2, told));
            Whole.unchanged(said, "ints", -12, y -> y.run(3, told));
            Whole.unchanged(said, "bytes of an odd size", -13, y -> y.run(1, told));
            Whole.unchanged(said, "bytes of a text", -13, y -> y.run(0, told));
            said.due("no denier 5", told(0, 0, 5, 0).run(7, told), -13);
            said.due("no sentence 4", told(0, 0, 3, 4).run(7, told), -13);
            said.due("no denier behind what may not", told(4, 0, -1, 0).run(7, told), -13);
            said.due("twelve", told(new int[24]).run(7, told), told == 0 ? 3 : 0);
            said.due("thirteen", told(new int[26]).run(7, told), -13);
            said.due("fifty", told(new int[100]).run(7, told), -13);
        }
        HoldsOnceDenied nothing = new HoldsOnceDenied();
        nothing.row(0, 0, 0);
        said.due("no denials where there is nothing", nothing.run(0, 0), 0);
        nothing.row(0, 0, 2);
        said.due("nobody where there is nothing", nothing.run(0, 0), -13);
        nothing.row(0, 1, 0);
        said.due("no shorts", nothing.run(0, 0), -12);
    }

    private void seeded() {
        said.at("Promise 23");
        said.that("SEEDED.");
        Whole.unchanged(said, "one of denier 0", 3, x -> x.seeded(1, 0));
        HoldsOnceDenied x = Whole.rich();
        int most = 0;
        int least = 9;
        for (int z = 0; z < 60; z++) {
            most = Math.max(most, x.seeded(40, z));
            least = Math.min(least, x.seeded(1, z));
        }
        said.due("the most by forty", most, 4);
        said.due("the least by one", least, 3);
        for (int z : new int[] {Integer.MIN_VALUE, -1, 0, Integer.MAX_VALUE}) {
            said.due("the same again by " + z, x.seeded(40, z), x.seeded(40, z));
        }
        said.that("-1, -3 there are no DENIERS, no SENTENCES.");
        for (int n : Whole.outside(41)) {
            Whole.unchanged(said, "n " + n, -1, y -> y.seeded(n, 5));
        }
        Whole.unchanged(said, "n 0", -1, y -> y.seeded(0, 5));
        Whole.unchanged(said, "n 1", 3, y -> y.seeded(1, 0));
        said.due("no deniers", Check.schoolOf("s;").seeded(1, 1), -3);
        said.due("no deniers, though one is true", Check.schoolOf("s;t0;").seeded(40, 1), -3);
        said.due("no sentences", Check.schoolOf("d00;").seeded(1, 1), -3);
        said.due("neither", new HoldsOnceDenied().seeded(1, 1), -3);
        said.due("n below ahead of neither", new HoldsOnceDenied().seeded(0, 1), -1);
        said.due("n above ahead of no deniers", Check.schoolOf("s;").seeded(41, 1), -1);
        said.due("n above ahead of no sentences", Check.schoolOf("d00;").seeded(41, 1), -1);
    }

    private void judge() {
        said.at("Promise 24");
        said.that("JUDGED by the ROW in SHELF d; -4.");
        Whole.unchanged(said, "bytes: he may not", 1, x -> x.judge(5));
        Whole.unchanged(said, "bytes: silenced, told 3", 2, x -> x.judge(1));
        Whole.unchanged(said, "shorts: not whole", 0, x -> x.judge(2));
        Whole.unchanged(said, "none: all is so", -4, x -> x.judge(6));
        for (int sort = 0; sort < 3; sort++) {
            HoldsOnceDenied x = Whole.rich();
            for (int d = 0; d < 8; d++) {
                Check.fill(x, d, sort, 3, 0, 0, 2, 2, 1);
                said.due("all is so in shelf " + d + ", sort " + sort, x.judge(d), -4);
            }
        }
        said.that("-1, -11, -12 (no ROW).");
        Whole.refusesOutside(said, "shelf", 8, (x, d) -> x.judge(d));
        Whole.unchanged(said, "nothing", -11, x -> x.judge(7));
        Whole.unchanged(said, "a denier", -12, x -> x.judge(4));
    }

    private void image() {
        said.at("Promise 25");
        said.that("THE IMAGE is taken: how many are TRUE.");
        said.due("none of nothing", new HoldsOnceDenied().image(), 0);
        HoldsOnceDenied x = Whole.rich();
        said.due("three", x.image(), 3);
        said.due("three still", x.count(3), 3);
        x.die(0);
        said.due("restored", x.restore(), 3);
        x.die(0);
        said.due("one", x.image(), 1);
        said.due("the newest image", x.restore(), 1);
        said.due("the day of the newest", x.count(2), 3);
        said.due("nine", Check.schoolOf("s;".repeat(9) + "t0;t1;t2;t3;t4;t5;t6;t7;t8;").image(), 9);
    }

    private void restore() {
        said.at("Promise 26");
        said.that("THE IMAGE is RESTORED: how many are TRUE.");
        HoldsOnceDenied x = Whole.rich();
        said.due("one was", x.restore(), 1);
        said.due("one is", x.count(3), 1);
        said.due("two came behind it with three more", x.count(1), 2);
        said.due("day", x.count(2), 1);
        said.due("once more", x.restore(), 1);
        said.due("shelves stay", x.element(2, 0), 300);
        said.due("nothing stays nothing", x.price(7), -11);
        said.due("he may deny as then", x.deny(0, 1), 1);
        said.due("what is done behind it is undone", x.restore() * 10 + x.count(2), 11);
        said.due("an image is no part of itself", x.restore(), 1);
        HoldsOnceDenied none = new HoldsOnceDenied();
        none.image();
        Check.read(none, "s;d00;x00;");
        said.due("nothing at all", none.restore() + none.count(0) + none.count(1) + none.count(2) + none.count(4), 0);
        said.that("-3: there is none.");
        HoldsOnceDenied y = Check.schoolOf("s;d00;x00;");
        said.due("there is none", y.restore(), -3);
        said.due("nothing is changed", y.count(0) * 1000 + y.count(1) * 100 + y.count(2) * 10 + y.count(3), 1111);
        said.due("none of nothing", new HoldsOnceDenied().restore(), -3);
    }

    private void count() {
        said.at("Promise 27");
        said.that("0 SENTENCES, 1 DENIERS, 2 DAY, 3 TRUE ones, 4 those alive; -1 for others.");
        Whole.unchanged(said, "sentences", 4, x -> x.count(0));
        Whole.unchanged(said, "deniers, the dead, too", 5, x -> x.count(1));
        Whole.unchanged(said, "day", 3, x -> x.count(2));
        Whole.unchanged(said, "true ones, the founder's, too", 3, x -> x.count(3));
        Whole.unchanged(said, "those alive", 4, x -> x.count(4));
        Whole.refusesOutside(said, "what", 5, (x, what) -> x.count(what));
    }
}
