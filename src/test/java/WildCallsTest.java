import java.util.Random;

/** No call throws or hangs, whatever it is given, but element as promised; refused calls change nothing. */
public final class WildCallsTest {
    private static final Check CHECK = new Check("WildCallsTest");
    private static final int[] EDGES = {Integer.MIN_VALUE, -2, -1, 0, 1, 2, 3, 5, 6, 7, 8, 9, 10, 12, 24, 40, 41, 100,
        101, Integer.MAX_VALUE};
    private static final String SIGNS = "sntdkx0123456789;;;;";

    public static void main(String[] args) {
        for (int seed = 0; seed < 4000; seed++) {
            wild(new Random(seed));
        }
        for (int seed = 0; seed < 3000; seed++) {
            wildTexts(new Random(seed));
        }
        CHECK.finish();
    }

    private static int some(Random random) {
        return random.nextInt(3) > 0 ? random.nextInt(9) : EDGES[random.nextInt(EDGES.length)];
    }

    private static void wild(Random random) {
        HoldsOnceDenied x = new HoldsOnceDenied();
        if (random.nextInt(4) > 0) {
            Check.read(x, random.nextBoolean() ? "s;s;s;s;n10;n21;d00;d10;d43;k00;t3;" : "s;s;s;s;s;s;s;s;s;n85;d72;d69;d79;d30;d59;d21;x20;");
        }
        for (int calls = 0; calls < 300; calls++) {
            int which = random.nextInt(33);
            int a = some(random);
            int b = some(random);
            int c = some(random);
            int before = state(x, calls);
            try {
                int answer = one(x, which, a, b, c, some(random), some(random));
                if (answer < 0 && calls % 8 == 0) {
                    CHECK.due("a refused call " + which + " changes nothing", state(x, calls), before);
                }
            } catch (RuntimeException e) {
                CHECK.due("call " + which + " of " + a + ", " + b + ", " + c + " threw " + e, 1, 0);
            }
        }
    }

    /** Looked at every eighth call only, to stay within the calls that an object is promised for. */
    private static int state(HoldsOnceDenied x, int calls) {
        int sum = 0;
        for (int what = 0; what < 5 && calls % 8 == 0; what++) {
            sum = sum * 31 + x.count(what);
        }
        return sum;
    }

    private static int one(HoldsOnceDenied x, int which, int a, int b, int c, int e, int f) {
        switch (which) {
            case 0: return x.school(a);
            case 1: return x.sentence(a, b);
            case 2: return x.denier(a, b);
            case 3: return x.comes(a);
            case 4: return x.learns(a, b);
            case 5: return x.deny(a, b);
            case 6: return x.die(a);
            case 7: return x.may(a);
            case 8: return x.silences(a);
            case 9: return x.steps(a, b);
            case 10: return x.falls(a);
            case 11: return x.lonely();
            case 12: return x.ever();
            case 13: return x.soonest(a);
            case 14: return x.first(a);
            case 15: return x.easiest(a);
            case 16: return x.all();
            case 17: return x.atOnce(a);
            case 18: return x.hire(a, b);
            case 19: return x.canHave(a);
            case 20: return x.run(a, b);
            case 21: return x.seeded(a, b);
            case 22: return x.judge(a);
            case 23: return x.image();
            case 24: return x.restore();
            case 25: return x.count(a);
            case 26: return x.keep(a, b, c, e);
            case 27: return x.row(a, b, c);
            case 28: return x.put(a, b, c);
            case 29: return Check.thrownAtElement(x, a, b);
            case 30: return x.copy(a, b, c, e, f);
            case 31: return x.price(a);
            default: return x.toss(a);
        }
    }

    private static void wildTexts(Random random) {
        HoldsOnceDenied x = new HoldsOnceDenied();
        int size = random.nextInt(101);
        StringBuilder text = new StringBuilder();
        while (text.length() < size) {
            if (random.nextInt(40) == 0) {
                text.append(SIGNS.charAt(random.nextInt(SIGNS.length())));
            } else {
                char letter = "ssssntdkx".charAt(random.nextInt(9));
                text.append(letter);
                int digits = letter == 's' ? 0 : letter == 't' ? 1 : 2;
                for (int i = 0; i < digits; i++) {
                    text.append((char) ('0' + random.nextInt(3)));
                }
                text.append(';');
            }
        }
        text.setLength(size);
        int answer = Check.read(x, text.toString());
        int badByte = firstBadByte(text.toString());
        if (badByte >= 0) {
            CHECK.due("the first kind in '" + text + "'", answer, -1000 - badByte);
        } else {
            CHECK.holds("'" + text + "' is read or of the second kind", answer > 0 || answer <= -2000 && answer > -2100);
        }
        if (answer < 0) {
            CHECK.due("nothing of '" + text + "' comes", x.count(0) + x.count(1) + x.count(2), 0);
        }
    }

    /** The longest beginning with which some school can go on ends where the bad byte is. */
    private static int firstBadByte(String text) {
        String whole = "(s;|t\\d;|[ndkx]\\d\\d;)";
        if (text.matches(whole + "+")) {
            return -1;
        }
        for (int end = text.length(); end > 0; end--) {
            if (text.substring(0, end).matches(whole + "*(s;?|t(\\d;?)?|[ndkx](\\d(\\d;?)?)?)")) {
                return end;
            }
        }
        return 0;
    }
}
