/** Counts wrong answers of one test, and fills shelves by texts and lists. */
final class Check {
    private final String name;
    private int wrong;
    private int looked;

    Check(String name) {
        this.name = name;
    }

    void due(String call, long got, long want) {
        looked++;
        if (got != want) {
            wrong++;
            System.out.println(name + ": " + call + " answered " + got + ", due is " + want);
        }
    }

    void holds(String what, boolean so) {
        due(what, so ? 1 : 0, 1);
    }

    /** 0 nothing is thrown, 1 IllegalArgumentException, 2 IllegalStateException. */
    static int thrownAtElement(HoldsOnceDenied x, int d, int i) {
        try {
            x.element(d, i);
            return 0;
        } catch (IllegalArgumentException e) {
            return 1;
        } catch (IllegalStateException e) {
            return 2;
        }
    }

    static void fill(HoldsOnceDenied x, int d, int sort, int... values) {
        if (x.row(d, sort, values.length) != 0) {
            throw new IllegalStateException("a test's own row is refused");
        }
        for (int i = 0; i < values.length; i++) {
            x.put(d, i, values[i]);
        }
    }

    static int read(HoldsOnceDenied x, String text) {
        fill(x, 0, 0, text.chars().toArray());
        return x.school(0);
    }

    static HoldsOnceDenied schoolOf(String text) {
        HoldsOnceDenied x = new HoldsOnceDenied();
        if (read(x, text) < 0) {
            throw new IllegalStateException("a test's own text is faulty: " + text);
        }
        return x;
    }

    void finish() {
        System.out.println(name + ": " + looked + " answers looked at, " + wrong + " wrong");
        if (wrong != 0) {
            System.exit(1);
        }
    }
}
