import java.util.ArrayDeque;
import java.util.ArrayList;
import java.util.HashMap;
import java.util.List;
import java.util.Map;
import java.util.TreeSet;

/** The document's words said once more, as plainly and slowly as can be: the disputes of one school, without shelves. */
final class Model {
    static final int NEVER = -4;

    int day;
    final List<TreeSet<Integer>> needs = new ArrayList<>();
    final List<Boolean> isTrue = new ArrayList<>();
    final List<Integer> maker = new ArrayList<>();
    final List<Integer> since = new ArrayList<>();
    final List<Integer> kind = new ArrayList<>();
    final List<Integer> figure = new ArrayList<>();
    final List<Boolean> alive = new ArrayList<>();
    final List<TreeSet<Integer>> knows = new ArrayList<>();

    Model copy() {
        Model m = new Model();
        m.day = day;
        for (TreeSet<Integer> n : needs) {
            m.needs.add(new TreeSet<>(n));
        }
        m.isTrue.addAll(isTrue);
        m.maker.addAll(maker);
        m.since.addAll(since);
        m.kind.addAll(kind);
        m.figure.addAll(figure);
        m.alive.addAll(alive);
        for (TreeSet<Integer> k : knows) {
            m.knows.add(new TreeSet<>(k));
        }
        return m;
    }

    void addSentence() {
        needs.add(new TreeSet<>());
        isTrue.add(false);
        maker.add(-4);
        since.add(-4);
    }

    void addDenier(int k, int f) {
        kind.add(k);
        figure.add(f);
        alive.add(true);
        knows.add(new TreeSet<>());
    }

    void found(int s) {
        isTrue.set(s, true);
        maker.set(s, -4);
        since.set(s, day);
    }

    /** Whether a statement is as told; if so it comes. */
    boolean tell(char letter, int one, int two) {
        switch (letter) {
            case 's':
                if (sentences() == 9) {
                    return false;
                }
                addSentence();
                return true;
            case 'n':
                if (one >= sentences() || two >= sentences() || one == two) {
                    return false;
                }
                needs.get(one).add(two);
                return true;
            case 't':
                if (one >= sentences() || isTrue.get(one)) {
                    return false;
                }
                found(one);
                return true;
            case 'd':
                if (one > 7 || deniers() == 6) {
                    return false;
                }
                addDenier(one, two);
                return true;
            case 'k':
                if (one >= deniers() || two >= sentences()) {
                    return false;
                }
                knows.get(one).add(two);
                return true;
            default:
                if (one >= deniers() || two >= sentences() || !may(one, two)) {
                    return false;
                }
                deny(one, two);
                return true;
        }
    }

    int sentences() {
        return needs.size();
    }

    int deniers() {
        return kind.size();
    }

    boolean met(int i, int s) {
        for (int n : needs.get(s)) {
            if (!isTrue.get(n) && !knows.get(i).contains(n)) {
                return false;
            }
        }
        return true;
    }

    boolean may(int i, int s) {
        return alive.get(i) && mayAsIfAlive(i, s);
    }

    boolean mayAsIfAlive(int i, int s) {
        boolean untrue = !isTrue.get(s);
        boolean asDenier = untrue && !knows.get(i).contains(s);
        int f = figure.get(i);
        switch (kind.get(i)) {
            case 0: return asDenier;
            case 1: return untrue;
            case 2: return asDenier && met(i, s);
            case 3: return true;
            case 4: return asDenier && s != f;
            case 5: return untrue && s <= f;
            case 6: return asDenier && met(i, s) || s == f && untrue;
            default: return asDenier && s != f && !needs.get(s).isEmpty();
        }
    }

    boolean silenced(int i, int s) {
        return kind.get(i) != 3 && !(kind.get(i) == 7 && day % 2 == 1) && met(i, s);
    }

    boolean deny(int i, int s) {
        boolean so = silenced(i, s);
        day++;
        if (so) {
            isTrue.set(s, true);
            maker.set(s, i);
            since.set(s, day);
            knows.get(i).add(s);
        }
        return so;
    }

    int steps(int i, int s) {
        int n = needs.get(s).size();
        int f = figure.get(i);
        int[] of = {n + 1, 2 * n + 2, n, 2 * n + 2, n + 1 + f, 2 * n + 1, n + f, 2 * (n + 1 + f)};
        return of[kind.get(i)];
    }

    int price(int i) {
        int f = figure.get(i);
        int[] of = {3, 2, 3 + f, 4, 3 * (f + 1), 7, 1 + f, 3 * (f + 1) / 2};
        return of[kind.get(i)];
    }

    int die(int i) {
        alive.set(i, false);
        ArrayDeque<Integer> falling = new ArrayDeque<>();
        for (int s = 0; s < sentences(); s++) {
            if (isTrue.get(s) && maker.get(s) == i) {
                falling.add(s);
            }
        }
        int fallen = 0;
        while (!falling.isEmpty()) {
            int gone = falling.remove();
            if (!isTrue.get(gone)) {
                continue;
            }
            fallen |= 1 << gone;
            isTrue.set(gone, false);
            maker.set(gone, -4);
            since.set(gone, -4);
            for (int s = 0; s < sentences(); s++) {
                if (isTrue.get(s) && needs.get(s).contains(gone)) {
                    falling.add(s);
                }
            }
        }
        return fallen;
    }

    int trueBits() {
        int bits = 0;
        for (int s = 0; s < sentences(); s++) {
            bits |= isTrue.get(s) ? 1 << s : 0;
        }
        return bits;
    }

    int knowsBits(int i) {
        int bits = 0;
        for (int s : knows.get(i)) {
            bits |= 1 << s;
        }
        return bits;
    }

    int needsBits(int s) {
        int bits = 0;
        for (int n : needs.get(s)) {
            bits |= 1 << n;
        }
        return bits;
    }

    int mayBits(int i) {
        int bits = 0;
        for (int s = 0; s < sentences(); s++) {
            bits |= may(i, s) ? 1 << s : 0;
        }
        return bits;
    }

    int silencesBits(int i) {
        int bits = 0;
        for (int s = 0; s < sentences(); s++) {
            bits |= !isTrue.get(s) && may(i, s) && silenced(i, s) ? 1 << s : 0;
        }
        return bits;
    }

    int lonely() {
        int bits = 0;
        for (int s = 0; s < sentences(); s++) {
            boolean somebody = isTrue.get(s);
            for (int i = 0; i < deniers(); i++) {
                somebody |= may(i, s);
            }
            bits |= somebody ? 0 : 1 << s;
        }
        return bits;
    }

    private String key() {
        StringBuilder b = new StringBuilder();
        b.append(trueBits());
        for (int i = 0; i < deniers(); i++) {
            b.append(',').append(knowsBits(i));
        }
        return b.toString();
    }

    /** All that can come by silencing denials, with what was true and known kept apart; each with its least sum. */
    private Map<String, Model> lookAhead(boolean bySteps, Map<String, Integer> least, Map<String, Integer> firsts) {
        Map<String, Model> met = new HashMap<>();
        Model begin = copy();
        begin.day = 0;
        met.put(begin.key(), begin);
        least.put(begin.key(), 0);
        ArrayDeque<Model> open = new ArrayDeque<>();
        open.add(begin);
        while (!open.isEmpty()) {
            Model at = open.remove();
            String from = at.key();
            for (int i = 0; i < deniers(); i++) {
                for (int s = 0; s < sentences(); s++) {
                    if (at.isTrue.get(s) || !at.may(i, s) || !at.silenced(i, s)) {
                        continue;
                    }
                    Model next = at.copy();
                    next.deny(i, s);
                    next.day = 0;
                    String to = next.key();
                    int sum = least.get(from) + (bySteps ? at.steps(i, s) : 1);
                    int first = from.equals(begin.key()) ? s : firsts.get(from);
                    Integer old = least.get(to);
                    if (old == null || sum < old || sum == old && first < firsts.get(to)) {
                        least.put(to, sum);
                        firsts.put(to, first);
                        met.put(to, next);
                        open.add(next);
                    }
                }
            }
        }
        return met;
    }

    /** EVER, ALL, then by sentence SOONEST, FIRST, EASIEST. */
    int[] ahead() {
        Map<String, Integer> denials = new HashMap<>();
        Map<String, Integer> firsts = new HashMap<>();
        Map<String, Integer> steps = new HashMap<>();
        Map<String, Model> met = lookAhead(false, denials, firsts);
        lookAhead(true, steps, new HashMap<>());
        int[] answers = new int[2 + 3 * sentences()];
        for (Model m : met.values()) {
            answers[0] |= m.trueBits();
        }
        answers[1] = NEVER;
        for (int s = 0; s < 3 * sentences(); s++) {
            answers[2 + s] = NEVER;
        }
        for (Map.Entry<String, Model> e : met.entrySet()) {
            int sum = steps.get(e.getKey());
            if (e.getValue().trueBits() == answers[0]) {
                answers[1] = less(answers[1], sum);
            }
            for (int s = 0; s < sentences(); s++) {
                if (e.getValue().isTrue.get(s)) {
                    answers[2 + 3 * s] = less(answers[2 + 3 * s], denials.get(e.getKey()));
                    answers[4 + 3 * s] = less(answers[4 + 3 * s], sum);
                }
            }
        }
        for (Map.Entry<String, Model> e : met.entrySet()) {
            for (int s = 0; s < sentences(); s++) {
                if (!isTrue.get(s) && e.getValue().isTrue.get(s)
                        && denials.get(e.getKey()) == answers[2 + 3 * s]) {
                    answers[3 + 3 * s] = less(answers[3 + 3 * s], firsts.get(e.getKey()));
                }
            }
        }
        return answers;
    }

    private static int less(int a, int b) {
        return a == NEVER || b < a ? b : a;
    }

    /** EVER alone, by trying till nothing comes any more. */
    int ever() {
        Model m = copy();
        for (boolean more = true; more;) {
            more = false;
            for (int i = 0; i < deniers(); i++) {
                for (int s = 0; s < sentences(); s++) {
                    m.day = 0;
                    if (!m.isTrue.get(s) && m.may(i, s) && m.silenced(i, s)) {
                        more |= m.deny(i, s);
                    }
                }
            }
        }
        return m.trueBits();
    }

    /** How many at once, and the prices. */
    int[] atOnce() {
        int[] best = {0, 0};
        matchFrom(0, 0, 0, 0, best);
        return best;
    }

    private void matchFrom(int i, int taken, int many, int paid, int[] best) {
        if (many > best[0] || many == best[0] && paid < best[1]) {
            best[0] = many;
            best[1] = paid;
        }
        if (i == deniers()) {
            return;
        }
        matchFrom(i + 1, taken, many, paid, best);
        for (int s = 0; s < sentences(); s++) {
            if ((silencesBits(i) >> s & 1) == 1 && (taken >> s & 1) == 0) {
                matchFrom(i + 1, taken | 1 << s, many + 1, paid + price(i), best);
            }
        }
    }

    /** The kind to hire, and how many then. */
    int[] hire(int f) {
        int[] best = {0, -1};
        for (int k = 0; k < 8; k++) {
            Model m = copy();
            m.addDenier(k, f);
            int many = Integer.bitCount(m.ever());
            if (many > best[1]) {
                best[0] = k;
                best[1] = many;
            }
        }
        return best;
    }

    int canHave(int s) {
        Model m = copy();
        m.isTrue.set(s, false);
        m.day = 0;
        int bits = 0;
        for (int i = 0; i < deniers(); i++) {
            m.knows.get(i).remove(s);
            bits |= m.mayAsIfAlive(i, s) && m.silenced(i, s) ? 1 << i : 0;
        }
        return bits;
    }
}
