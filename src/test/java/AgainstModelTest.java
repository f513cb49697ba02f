import java.util.ArrayList;
import java.util.List;
import java.util.Random;

/** Promises 2 to 27 on many schools made by fixed seeds, against Model. */
public final class AgainstModelTest {
    private static final Check CHECK = new Check("AgainstModelTest");

    public static void main(String[] args) {
        for (int seed = 0; seed < 2500; seed++) {
            oneSchool(seed, 1 + seed % 5, 1 + seed % 4, true);
        }
        for (int seed = 0; seed < 2500; seed++) {
            oneSchool(100000 + seed, 5 + seed % 5, seed % 7, false);
        }
        for (int seed = 0; seed < 3000; seed++) {
            textsBehindTexts(seed);
        }
        CHECK.finish();
    }

    /** Texts of whole statements, many of them not as told, read one behind the other on one object. */
    private static void textsBehindTexts(int seed) {
        Random random = new Random(200000 + seed);
        HoldsOnceDenied x = new HoldsOnceDenied();
        Model m = new Model();
        for (int texts = 0; texts < 3; texts++) {
            String text = statements(random, m.sentences() + m.deniers() == 0);
            Model mind = m.copy();
            int due = read(mind, text);
            CHECK.due("seed " + seed + " text " + texts + " '" + text + "'", Check.read(x, text), due);
            m = due < 0 ? m : mind;
            sentences("seed " + seed + " text " + texts, x, m);
            deniers("seed " + seed + " text " + texts, x, m);
            CHECK.due("seed " + seed + " count(0)", x.count(0), m.sentences());
            CHECK.due("seed " + seed + " count(1)", x.count(1), m.deniers());
            CHECK.due("seed " + seed + " count(2)", x.count(2), m.day);
            if (m.deniers() > 0 && random.nextInt(3) == 0) {
                int i = random.nextInt(m.deniers());
                CHECK.due("seed " + seed + " die", x.die(i), m.alive.get(i) ? Integer.bitCount(m.die(i)) : -3);
            }
        }
    }

    private static String statements(Random random, boolean first) {
        StringBuilder b = new StringBuilder(first ? "s;s;s;d00;" : "");
        for (int more = 1 + random.nextInt(8); more > 0; more--) {
            char letter = "sntdkxnkx".charAt(random.nextInt(9));
            b.append(letter);
            for (int digits = letter == 's' ? 0 : letter == 't' ? 1 : 2; digits > 0; digits--) {
                b.append((char) ('0' + random.nextInt(random.nextInt(12) == 0 ? 10 : 3)));
            }
            b.append(';');
        }
        return b.toString();
    }

    /** How many statements, or the fault of the second kind; the model is spoilt then. */
    private static int read(Model m, String text) {
        int place = 0;
        int read = 0;
        for (String statement : text.split(";")) {
            int one = statement.length() > 1 ? statement.charAt(1) - '0' : -1;
            int two = statement.length() > 2 ? statement.charAt(2) - '0' : -1;
            if (!m.tell(statement.charAt(0), one, two)) {
                return -2000 - place;
            }
            place += statement.length() + 1;
            read++;
        }
        return read;
    }

    private static void oneSchool(int seed, int sentences, int deniers, boolean ahead) {
        Random random = new Random(seed);
        HoldsOnceDenied x = new HoldsOnceDenied();
        Model m = new Model();
        String text = text(random, m, sentences, deniers);
        CHECK.due(text, Check.read(x, text), text.chars().filter(c -> c == ';').count());
        List<Model> image = new ArrayList<>();
        String name = "seed " + seed;
        // Two looks only: an object is promised for 512 calls.
        compare(name, x, m, random, ahead);
        m = happen(name, x, m, random, image);
        compare(name, x, m, random, ahead);
    }

    /** A text of at most 100 bytes that has no fault, and the model of it. */
    private static String text(Random random, Model m, int sentences, int deniers) {
        StringBuilder b = new StringBuilder();
        for (int s = 0; s < sentences; s++) {
            b.append("s;");
            m.addSentence();
        }
        for (int i = 0; i < deniers; i++) {
            int kind = random.nextInt(8);
            int figure = random.nextInt(4) == 0 ? random.nextInt(10) : random.nextInt(sentences);
            b.append('d').append(kind).append(figure).append(';');
            m.addDenier(kind, figure);
        }
        for (int tries = random.nextInt(16); tries > 0 && b.length() <= 96; tries--) {
            more(random, m, b);
        }
        return b.toString();
    }

    private static void more(Random random, Model m, StringBuilder b) {
        int s = random.nextInt(m.sentences());
        int r = random.nextInt(m.sentences());
        int i = m.deniers() == 0 ? 0 : random.nextInt(m.deniers());
        int which = random.nextInt(8);
        if (which < 4 && s != r) {
            b.append('n').append(s).append(r).append(';');
            m.needs.get(s).add(r);
        } else if (which == 4 && !m.isTrue.get(s)) {
            b.append('t').append(s).append(';');
            m.found(s);
        } else if (which == 5 && m.deniers() > 0) {
            b.append('k').append(i).append(s).append(';');
            m.knows.get(i).add(s);
        } else if (which > 5 && m.deniers() > 0 && m.may(i, s)) {
            b.append('x').append(i).append(s).append(';');
            m.deny(i, s);
        }
    }

    private static void compare(String name, HoldsOnceDenied x, Model m, Random random, boolean ahead) {
        sentences(name, x, m);
        deniers(name, x, m);
        CHECK.due(name + " count(0)", x.count(0), m.sentences());
        CHECK.due(name + " count(1)", x.count(1), m.deniers());
        CHECK.due(name + " count(2)", x.count(2), m.day);
        CHECK.due(name + " count(3)", x.count(3), Integer.bitCount(m.trueBits()));
        CHECK.due(name + " lonely", x.lonely(), m.lonely());
        CHECK.due(name + " ever", x.ever(), m.ever());
        int[] once = m.atOnce();
        CHECK.due(name + " atOnce(0)", x.atOnce(0), once[0]);
        CHECK.due(name + " atOnce(1)", x.atOnce(1), once[1]);
        int figure = random.nextInt(10);
        int[] hired = m.hire(figure);
        CHECK.due(name + " hire(0)", x.hire(figure, 0), hired[0]);
        CHECK.due(name + " hire(1)", x.hire(figure, 1), hired[1]);
        if (ahead) {
            ahead(name, x, m);
        }
        if (m.deniers() > 0) {
            disputes(name, x, m, random);
        }
    }

    private static void sentences(String name, HoldsOnceDenied x, Model m) {
        for (int s = 0; s < m.sentences(); s++) {
            String at = name + " sentence " + s;
            CHECK.due(at + " needs", x.sentence(s, 0), m.needsBits(s));
            CHECK.due(at + " true", x.sentence(s, 1), m.isTrue.get(s) ? 1 : 0);
            CHECK.due(at + " denier", x.sentence(s, 2), m.maker.get(s));
            CHECK.due(at + " day", x.sentence(s, 3), m.since.get(s));
            CHECK.due(at + " canHave", x.canHave(s), m.isTrue.get(s) ? m.canHave(s) : -3);
        }
    }

    private static void deniers(String name, HoldsOnceDenied x, Model m) {
        for (int i = 0; i < m.deniers(); i++) {
            String at = name + " denier " + i;
            CHECK.due(at + " knows", x.denier(i, 2), m.knowsBits(i));
            CHECK.due(at + " alive", x.denier(i, 3), m.alive.get(i) ? 1 : 0);
            CHECK.due(at + " price", x.denier(i, 4), m.price(i));
            CHECK.due(at + " may", x.may(i), m.mayBits(i));
            CHECK.due(at + " silences", x.silences(i), m.silencesBits(i));
            CHECK.due(at + " falls", x.falls(i), m.copy().die(i));
            CHECK.due(at + " steps", x.steps(i, 0), m.steps(i, 0));
        }
    }

    private static void ahead(String name, HoldsOnceDenied x, Model m) {
        int[] ahead = m.ahead();
        CHECK.due(name + " ever", x.ever(), ahead[0]);
        CHECK.due(name + " all", x.all(), ahead[1]);
        for (int s = 0; s < m.sentences(); s++) {
            CHECK.due(name + " soonest " + s, x.soonest(s), ahead[2 + 3 * s]);
            CHECK.due(name + " first " + s, x.first(s), ahead[3 + 3 * s]);
            CHECK.due(name + " easiest " + s, x.easiest(s), ahead[4 + 3 * s]);
        }
    }

    private static void disputes(String name, HoldsOnceDenied x, Model m, Random random) {
        int[] denials = new int[2 * random.nextInt(13)];
        int[] told = new int[3 * denials.length / 2];
        Model mind = m.copy();
        Model judged = m.copy();
        int made = 0;
        int wrong = -4;
        for (int p = 0; p < denials.length; p += 2) {
            int i = denials[p] = random.nextInt(m.deniers());
            int s = denials[p + 1] = random.nextInt(m.sentences());
            if (mind.may(i, s)) {
                mind.deny(i, s);
                made++;
            }
            int t = 3 * p / 2;
            told[t] = i;
            told[t + 1] = s;
            told[t + 2] = judged.silenced(i, s) != (random.nextInt(8) == 0) ? 1 : 0;
            if (wrong < 0 && !judged.may(i, s)) {
                wrong = t + 1;
            } else if (wrong < 0 && (judged.deny(i, s) ? 1 : 0) != told[t + 2]) {
                wrong = t + 2;
            }
        }
        Check.fill(x, 1, 0, denials);
        CHECK.due(name + " run(0)", x.run(1, 0), Integer.bitCount(mind.trueBits()));
        CHECK.due(name + " run(1)", x.run(1, 1), made);
        Check.fill(x, 1, random.nextInt(3), told);
        CHECK.due(name + " judge", x.judge(1), wrong);
        int n = 1 + random.nextInt(40);
        int z = random.nextInt();
        CHECK.due(name + " seeded", x.seeded(n, z), seeded(m.copy(), n, z));
    }

    private static int seeded(Model m, int n, int z) {
        for (int k = 0; k < n; k++) {
            z = z * 1103515245 + 12345;
            int i = (int) ((z & 0x7fffffffL) / 65536 % m.deniers());
            z = z * 1103515245 + 12345;
            int s = (int) ((z & 0x7fffffffL) / 65536 % m.sentences());
            if (m.may(i, s)) {
                m.deny(i, s);
            }
        }
        return Integer.bitCount(m.trueBits());
    }

    /** A few denials, lessons, deaths and images; answers the model as it is then. */
    private static Model happen(String name, HoldsOnceDenied x, Model m, Random random, List<Model> image) {
        Model now = m;
        for (int k = 0; k < 9 && now.deniers() > 0; k++) {
            int i = random.nextInt(now.deniers());
            int s = random.nextInt(now.sentences());
            switch (random.nextInt(12)) {
                case 0:
                    CHECK.due(name + " learns", x.learns(i, s), now.knows.get(i).add(s) ? 1 : 0);
                    break;
                case 1:
                    CHECK.due(name + " die", x.die(i), now.alive.get(i) ? Integer.bitCount(now.die(i)) : -3);
                    break;
                case 2:
                    CHECK.due(name + " image", x.image(), Integer.bitCount(now.trueBits()));
                    image.clear();
                    image.add(now.copy());
                    break;
                case 3:
                    if (!image.isEmpty()) {
                        now = image.get(0).copy();
                    }
                    CHECK.due(name + " restore", x.restore(),
                        image.isEmpty() ? -3 : Integer.bitCount(now.trueBits()));
                    break;
                default:
                    CHECK.due(name + " deny", x.deny(i, s), now.may(i, s) ? now.deny(i, s) ? 1 : 0 : -3);
            }
        }
        return now;
    }
}
