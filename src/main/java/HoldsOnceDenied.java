import java.util.Arrays;

/** A school in which a sentence is true only once somebody has denied it and been silenced. */
public final class HoldsOnceDenied {
    private static final int MOST_SENTENCES = 9;
    private static final int MOST_DENIERS = 6;
    private static final int SETS_OF_SENTENCES = 512;
    private static final int KINDS = 8;
    private static final int MOST_FIGURE = 9;
    private static final int SHELVES = 8;
    private static final int SORTS = 3;
    private static final int BYTES = 0;
    private static final int SHORTS = 1;
    private static final int MOST_ELEMENTS = 100;
    private static final int MOST_DENIALS = 12;
    private static final int MOST_SEEDED = 40;

    private static final int NO_SUCH = -1;
    private static final int NO_ROOM = -2;
    private static final int CANNOT_BE = -3;
    private static final int NONE = -4;
    private static final int NOTHING_HELD = -11;
    private static final int OTHER_HELD = -12;
    private static final int NO_PLACE = -13;
    private static final int BELOW_ZERO = -14;
    private static final int NO_FAILURE = -15;

    private static final int BAD_TEXT = -1000;
    private static final int BAD_STATEMENT = -2000;

    private final School now = new School();
    private final School mind = new School();
    private final School past = new School();
    private boolean pastTaken;
    private final Foresight foresight = new Foresight();
    private final Denier[] shelvedDeniers = new Denier[SHELVES];
    private final Row[] shelvedRows = new Row[SHELVES];

    public HoldsOnceDenied() {
    }

    // ---- schools

    public int school(int d) {
        Row text = rowAt(d);
        if (text == null) {
            return whyMissing(d);
        }
        if (!text.isOf(BYTES)) {
            return OTHER_HELD;
        }
        int badByte = firstBadByte(text);
        if (badByte >= 0) {
            return BAD_TEXT - badByte;
        }
        mind.become(now);
        int statements = 0;
        int place = 0;
        while (place < text.size()) {
            if (!tell(mind, text, place)) {
                return BAD_STATEMENT - place;
            }
            statements++;
            place += 2 + digitsBehind(text.at(place));
        }
        now.become(mind);
        return statements;
    }

    public int sentence(int sentence, int what) {
        if (!now.hasSentence(sentence)) {
            return NO_SUCH;
        }
        switch (what) {
            case 0: return now.needsOf(sentence);
            case 1: return now.isTrue(sentence) ? 1 : 0;
            case 2: return now.isTrue(sentence) ? now.makerOf(sentence) : NONE;
            case 3: return now.isTrue(sentence) ? now.trueSince(sentence) : NONE;
            default: return NO_SUCH;
        }
    }

    public int denier(int denier, int what) {
        Denier who = now.memberAt(denier);
        if (who == null) {
            return NO_SUCH;
        }
        switch (what) {
            case 0: return who.kind;
            case 1: return who.figure;
            case 2: return now.knownTo(denier);
            case 3: return now.isAlive(denier) ? 1 : 0;
            case 4: return who.asks();
            default: return NO_SUCH;
        }
    }

    public int comes(int d) {
        Denier who = denierAt(d);
        if (who == null) {
            return whyMissing(d);
        }
        return now.join(who);
    }

    public int learns(int denier, int sentence) {
        if (!isPair(denier, sentence)) {
            return NO_SUCH;
        }
        return now.learn(denier, sentence) ? 1 : 0;
    }

    public int deny(int denier, int sentence) {
        if (!isPair(denier, sentence)) {
            return NO_SUCH;
        }
        if (!now.isAllowed(denier, sentence)) {
            return CANNOT_BE;
        }
        return now.dispute(denier, sentence) ? 1 : 0;
    }

    public int die(int denier) {
        if (!now.hasDenier(denier)) {
            return NO_SUCH;
        }
        if (!now.isAlive(denier)) {
            return CANNOT_BE;
        }
        int fallen = now.ruins(denier);
        now.bury(denier, fallen);
        return Integer.bitCount(fallen);
    }

    // ---- who may, who is silenced

    public int may(int denier) {
        return now.hasDenier(denier) ? now.allowedTo(denier) : NO_SUCH;
    }

    public int silences(int denier) {
        return now.hasDenier(denier) ? now.silencingFor(denier) : NO_SUCH;
    }

    public int steps(int denier, int sentence) {
        Denier who = now.memberAt(denier);
        if (who == null || !now.hasSentence(sentence)) {
            return NO_SUCH;
        }
        return who.effort(Integer.bitCount(now.needsOf(sentence)));
    }

    public int falls(int denier) {
        return now.hasDenier(denier) ? now.ruins(denier) : NO_SUCH;
    }

    public int lonely() {
        int allowed = 0;
        for (int i = 0; i < MOST_DENIERS; i++) {
            allowed |= now.allowedTo(i);
        }
        return now.untrue() & ~allowed;
    }

    // ---- what can be had

    public int ever() {
        foresight.look(now, null);
        return foresight.reachable();
    }

    public int soonest(int sentence) {
        if (!now.hasSentence(sentence)) {
            return NO_SUCH;
        }
        foresight.look(now, null);
        return foresight.fewestDenials(bit(sentence));
    }

    public int first(int sentence) {
        if (!now.hasSentence(sentence)) {
            return NO_SUCH;
        }
        foresight.look(now, null);
        return foresight.beginning(bit(sentence));
    }

    public int easiest(int sentence) {
        if (!now.hasSentence(sentence)) {
            return NO_SUCH;
        }
        foresight.look(now, null);
        return foresight.fewestSteps(bit(sentence));
    }

    public int all() {
        foresight.look(now, null);
        return foresight.fewestSteps(foresight.reachable());
    }

    // ---- at once, to hire, who it was

    public int atOnce(int what) {
        if (what != 0 && what != 1) {
            return NO_SUCH;
        }
        return foresight.together(now, what == 1);
    }

    public int hire(int figure, int what) {
        if (!isFigure(figure) || what != 0 && what != 1) {
            return NO_SUCH;
        }
        int bestKind = 0;
        int most = -1;
        for (int kind = 0; kind < KINDS; kind++) {
            foresight.look(now, newDenier(kind, figure));
            int had = Integer.bitCount(foresight.reachable());
            if (had > most) {
                most = had;
                bestKind = kind;
            }
        }
        return what == 0 ? bestKind : most;
    }

    public int canHave(int sentence) {
        if (!now.hasSentence(sentence)) {
            return NO_SUCH;
        }
        if (!now.isTrue(sentence)) {
            return CANNOT_BE;
        }
        return now.suspects(sentence);
    }

    // ---- told disputes

    public int run(int d, int what) {
        Row denials = rowAt(d);
        if (what != 0 && what != 1) {
            return NO_SUCH;
        }
        if (denials == null) {
            return whyMissing(d);
        }
        if (!denials.isOf(BYTES)) {
            return OTHER_HELD;
        }
        if (!areDenials(denials)) {
            return NO_PLACE;
        }
        mind.become(now);
        int made = 0;
        for (int place = 0; place < denials.size(); place += 2) {
            made += disputeIfAllowed(denials.at(place), denials.at(place + 1));
        }
        return what == 0 ? mind.countTrue() : made;
    }

    public int seeded(int n, int z) {
        if (n < 1 || n > MOST_SEEDED) {
            return NO_SUCH;
        }
        if (now.countDeniers() < 1 || now.countSentences() < 1) {
            return CANNOT_BE;
        }
        mind.become(now);
        int seed = z;
        for (int i = 0; i < n; i++) {
            seed = nextSeed(seed);
            int who = draw(seed, now.countDeniers());
            seed = nextSeed(seed);
            disputeIfAllowed(who, draw(seed, now.countSentences()));
        }
        return mind.countTrue();
    }

    public int judge(int d) {
        Row told = rowAt(d);
        if (told == null) {
            return whyMissing(d);
        }
        mind.become(now);
        for (int place = 0; place < told.size(); place += 3) {
            if (place + 3 > told.size()) {
                return place;
            }
            int who = told.at(place);
            int what = told.at(place + 1);
            if (!mind.hasDenier(who)) {
                return place;
            }
            if (!mind.hasSentence(what) || !mind.isAllowed(who, what)) {
                return place + 1;
            }
            int silenced = mind.dispute(who, what) ? 1 : 0;
            if (told.at(place + 2) != silenced) {
                return place + 2;
            }
        }
        return NONE;
    }

    // ---- the image, what is told

    public int image() {
        past.become(now);
        pastTaken = true;
        return now.countTrue();
    }

    public int restore() {
        if (!pastTaken) {
            return CANNOT_BE;
        }
        now.become(past);
        return now.countTrue();
    }

    public int count(int what) {
        switch (what) {
            case 0: return now.countSentences();
            case 1: return now.countDeniers();
            case 2: return now.today();
            case 3: return now.countTrue();
            case 4: return now.countAlive();
            default: return NO_SUCH;
        }
    }

    // ---- shelves

    public int keep(int d, int what, int k, int figure) {
        if (!isShelf(d)) {
            return NO_SUCH;
        }
        if (what == 0) {
            fillShelf(d, null, null);
            return 0;
        }
        if (what != 1 || k < 0 || k >= KINDS || !isFigure(figure)) {
            return NO_SUCH;
        }
        fillShelf(d, newDenier(k, figure), null);
        return 0;
    }

    public int row(int d, int sort, int n) {
        if (!isShelf(d) || sort < 0 || sort >= SORTS || n > MOST_ELEMENTS) {
            return NO_SUCH;
        }
        if (n < 0) {
            return BELOW_ZERO;
        }
        fillShelf(d, null, new Row(sort, new int[n]));
        return 0;
    }

    public int put(int d, int i, int v) {
        Row row = rowAt(d);
        if (row == null) {
            return whyMissing(d);
        }
        if (!row.hasPlace(i)) {
            return NO_PLACE;
        }
        row.store(i, v);
        return 0;
    }

    public long element(int d, int i) throws IllegalArgumentException, IllegalStateException {
        if (!isShelf(d)) {
            throw new IllegalArgumentException("no such shelf");
        }
        Row row = rowAt(d);
        if (row == null || !row.hasPlace(i)) {
            throw new IllegalStateException("no such place of a row");
        }
        return row.at(i);
    }

    public int copy(int d, int i, int e, int j, int n) {
        if (!isShelf(d) || !isShelf(e)) {
            return NO_SUCH;
        }
        if (isEmpty(d) || isEmpty(e)) {
            return NOTHING_HELD;
        }
        Row from = rowAt(d);
        Row to = rowAt(e);
        if (from == null || to == null || !to.isOf(from.sort)) {
            return OTHER_HELD;
        }
        if (!from.hasStretch(i, n) || !to.hasStretch(j, n)) {
            return NO_PLACE;
        }
        System.arraycopy(from.cells, i, to.cells, j, n);
        return n;
    }

    public int price(int d) {
        Denier who = denierAt(d);
        return who == null ? whyMissing(d) : who.asks();
    }

    public int toss(int d) {
        Denier who = denierAt(d);
        if (who == null) {
            return whyMissing(d);
        }
        try {
            who.fail();
        } catch (IllegalStateException failureOfMost) {
            return who.figure;
        } catch (IllegalArgumentException failureOfFools) {
            return 100 + who.figure;
        } catch (UnsupportedOperationException failureOfOldOnes) {
            return 200 + who.asks();
        }
        return NO_FAILURE;
    }

    // ---- what the calls above share

    private static int bit(int i) {
        return i >= 0 && i < MOST_SENTENCES ? 1 << i : 0;
    }

    private static boolean has(int bits, int i) {
        return i >= 0 && i < MOST_SENTENCES && (bits >> i & 1) != 0;
    }

    private static boolean within(int part, int whole) {
        return (part & ~whole) == 0;
    }

    private static boolean isFigure(int figure) {
        return figure >= 0 && figure <= MOST_FIGURE;
    }

    private static boolean isShelf(int d) {
        return d >= 0 && d < SHELVES;
    }

    private boolean isPair(int denier, int sentence) {
        return now.hasDenier(denier) && now.hasSentence(sentence);
    }

    private Row rowAt(int d) {
        return d >= 0 && d < shelvedRows.length ? shelvedRows[d] : null;
    }

    private Denier denierAt(int d) {
        return d >= 0 && d < shelvedDeniers.length ? shelvedDeniers[d] : null;
    }

    private boolean isEmpty(int d) {
        return rowAt(d) == null && denierAt(d) == null;
    }

    // Asked only where the wanted thing is not, so what is held there is of the other kind.
    private int whyMissing(int d) {
        if (!isShelf(d)) {
            return NO_SUCH;
        }
        return isEmpty(d) ? NOTHING_HELD : OTHER_HELD;
    }

    private void fillShelf(int d, Denier who, Row row) {
        if (d >= 0 && d < shelvedDeniers.length && d < shelvedRows.length) {
            shelvedDeniers[d] = who;
            shelvedRows[d] = row;
        }
    }

    private static Denier newDenier(int kind, int figure) {
        switch (kind) {
            case 0: return new Denier(kind, figure);
            case 1: return new Fool(kind, figure);
            case 2: return new Wise(kind, figure);
            case 3: return new Deaf(kind, figure);
            case 4: return new Friend(kind, figure);
            case 5: return new Hired(kind, figure);
            case 6: return new Old(kind, figure);
            case 7: return new Boy(kind, figure);
            default: return null;
        }
    }

    private boolean areDenials(Row row) {
        if (row.size() % 2 != 0 || row.size() > 2 * MOST_DENIALS) {
            return false;
        }
        for (int place = 0; place < row.size(); place += 2) {
            if (!isPair(row.at(place), row.at(place + 1))) {
                return false;
            }
        }
        return true;
    }

    private int disputeIfAllowed(int denier, int sentence) {
        if (!mind.isAllowed(denier, sentence)) {
            return 0;
        }
        mind.dispute(denier, sentence);
        return 1;
    }

    private static int nextSeed(int seed) {
        return seed * 1103515245 + 12345;
    }

    private static int draw(int seed, int below) {
        return below < 1 ? 0 : ((seed & 0x7fffffff) >> 16) % below;
    }

    // How many digits a statement's letter wants; -1 where no statement begins so.
    private static int digitsBehind(int letter) {
        switch (letter) {
            case 's': return 0;
            case 't': return 1;
            case 'n':
            case 'd':
            case 'k':
            case 'x': return 2;
            default: return -1;
        }
    }

    private static int digit(int sign) {
        return sign >= '0' && sign <= '9' ? sign - '0' : -1;
    }

    // The size of the text where it ends too early; -1 where it is well formed.
    private static int firstBadByte(Row text) {
        int place = 0;
        do {
            int digits = digitsBehind(text.at(place));
            if (digits < 0) {
                return place;
            }
            place++;
            for (int i = 0; i < digits; i++) {
                if (digit(text.at(place)) < 0) {
                    return place;
                }
                place++;
            }
            if (text.at(place) != ';') {
                return place;
            }
            place++;
        } while (place < text.size());
        return -1;
    }

    private static boolean tell(School school, Row text, int place) {
        int one = digit(text.at(place + 1));
        int two = digit(text.at(place + 2));
        switch (text.at(place)) {
            case 's': return school.addSentence();
            case 'n': return school.addNeed(one, two);
            case 't': return school.found(one);
            case 'd': return school.join(newDenier(one, two)) >= 0;
            case 'k':
                if (!school.hasDenier(one) || !school.hasSentence(two)) {
                    return false;
                }
                school.learn(one, two);
                return true;
            case 'x':
                if (!school.isAllowed(one, two)) {
                    return false;
                }
                school.dispute(one, two);
                return true;
            default: return false;
        }
    }

    /** The first kind of denier, and what every other kind falls back on. Never changed, so shelves and schools share it. */
    private static class Denier {
        final int kind;
        final int figure;

        Denier(int kind, int figure) {
            this.kind = kind;
            this.figure = figure;
        }

        boolean mayDispute(int sentence, int truth, int knows, int needs) {
            return !has(truth, sentence) && !has(knows, sentence);
        }

        boolean isSilenced(int truth, int knows, int needs, boolean oddDay) {
            return within(needs, truth | knows);
        }

        int effort(int howManyNeeded) {
            return howManyNeeded + 1;
        }

        int asks() {
            return 3;
        }

        void fail() {
            if (figure != 0) {
                throw new IllegalStateException("a denier fails");
            }
        }
    }

    private static class Fool extends Denier {
        Fool(int kind, int figure) {
            super(kind, figure);
        }

        boolean mayDispute(int sentence, int truth, int knows, int needs) {
            return !has(truth, sentence);
        }

        int effort(int howManyNeeded) {
            return 2 * super.effort(howManyNeeded);
        }

        int asks() {
            return super.asks() - 1;
        }

        void fail() {
            if (figure != 0) {
                throw new IllegalArgumentException("a fool fails");
            }
        }
    }

    private static class Wise extends Denier {
        Wise(int kind, int figure) {
            super(kind, figure);
        }

        boolean mayDispute(int sentence, int truth, int knows, int needs) {
            return super.mayDispute(sentence, truth, knows, needs) && within(needs, truth | knows);
        }

        int effort(int howManyNeeded) {
            return howManyNeeded;
        }

        int asks() {
            return super.asks() + figure;
        }
    }

    private static final class Deaf extends Fool {
        Deaf(int kind, int figure) {
            super(kind, figure);
        }

        boolean mayDispute(int sentence, int truth, int knows, int needs) {
            return true;
        }

        boolean isSilenced(int truth, int knows, int needs, boolean oddDay) {
            return false;
        }

        int asks() {
            return 2 * super.asks();
        }

        void fail() {
            // A deaf one has no failure, whatever the figure.
        }
    }

    private static class Friend extends Denier {
        Friend(int kind, int figure) {
            super(kind, figure);
        }

        boolean mayDispute(int sentence, int truth, int knows, int needs) {
            return super.mayDispute(sentence, truth, knows, needs) && sentence != figure;
        }

        int effort(int howManyNeeded) {
            return super.effort(howManyNeeded) + figure;
        }

        int asks() {
            return super.asks() * (figure + 1);
        }
    }

    private static final class Hired extends Fool {
        Hired(int kind, int figure) {
            super(kind, figure);
        }

        boolean mayDispute(int sentence, int truth, int knows, int needs) {
            return super.mayDispute(sentence, truth, knows, needs) && sentence <= figure;
        }

        int effort(int howManyNeeded) {
            return super.effort(howManyNeeded) - 1;
        }

        int asks() {
            return super.asks() + 5;
        }

        // Only fools proper fail as fools do: a hired one fails as any denier.
        void fail() {
            if (figure != 0) {
                throw new IllegalStateException("a hired one fails");
            }
        }
    }

    private static final class Old extends Wise {
        Old(int kind, int figure) {
            super(kind, figure);
        }

        boolean mayDispute(int sentence, int truth, int knows, int needs) {
            return super.mayDispute(sentence, truth, knows, needs)
                    || sentence == figure && !has(truth, sentence);
        }

        int effort(int howManyNeeded) {
            return super.effort(howManyNeeded) + figure;
        }

        int asks() {
            return super.asks() - 2;
        }

        void fail() {
            if (figure != 0) {
                throw new UnsupportedOperationException("an old one fails");
            }
        }
    }

    private static final class Boy extends Friend {
        Boy(int kind, int figure) {
            super(kind, figure);
        }

        boolean mayDispute(int sentence, int truth, int knows, int needs) {
            return super.mayDispute(sentence, truth, knows, needs) && needs != 0;
        }

        boolean isSilenced(int truth, int knows, int needs, boolean oddDay) {
            return !oddDay && super.isSilenced(truth, knows, needs, oddDay);
        }

        int effort(int howManyNeeded) {
            return super.effort(howManyNeeded) * 2;
        }

        int asks() {
            return super.asks() / 2;
        }
    }

    /** All that there is but the shelves. Sets of sentences and of deniers are held as bits. */
    private static final class School {
        private int sentences;
        private int deniers;
        private int truth;
        private int alive;
        private int day;
        private final int[] needs = new int[MOST_SENTENCES];
        private final int[] makers = new int[MOST_SENTENCES];
        private final int[] since = new int[MOST_SENTENCES];
        private final int[] known = new int[MOST_DENIERS];
        private final Denier[] members = new Denier[MOST_DENIERS];

        void become(School other) {
            sentences = other.sentences;
            deniers = other.deniers;
            truth = other.truth;
            alive = other.alive;
            day = other.day;
            System.arraycopy(other.needs, 0, needs, 0, MOST_SENTENCES);
            System.arraycopy(other.makers, 0, makers, 0, MOST_SENTENCES);
            System.arraycopy(other.since, 0, since, 0, MOST_SENTENCES);
            System.arraycopy(other.known, 0, known, 0, MOST_DENIERS);
            System.arraycopy(other.members, 0, members, 0, MOST_DENIERS);
        }

        boolean hasSentence(int sentence) {
            return sentence >= 0 && sentence < sentences;
        }

        boolean hasDenier(int denier) {
            return denier >= 0 && denier < deniers;
        }

        int needsOf(int sentence) {
            return sentence >= 0 && sentence < needs.length ? needs[sentence] : 0;
        }

        int makerOf(int sentence) {
            return sentence >= 0 && sentence < makers.length ? makers[sentence] : NONE;
        }

        int trueSince(int sentence) {
            return sentence >= 0 && sentence < since.length ? since[sentence] : NONE;
        }

        int knownTo(int denier) {
            return denier >= 0 && denier < known.length ? known[denier] : 0;
        }

        // Null for a denier who is not there.
        Denier memberAt(int denier) {
            return denier >= 0 && denier < members.length ? members[denier] : null;
        }

        boolean isTrue(int sentence) {
            return has(truth, sentence);
        }

        boolean isAlive(int denier) {
            return has(alive, denier);
        }

        int untrue() {
            return ((1 << sentences) - 1) & ~truth;
        }

        int countSentences() {
            return sentences;
        }

        int countDeniers() {
            return deniers;
        }

        int countTrue() {
            return Integer.bitCount(truth);
        }

        int countAlive() {
            return Integer.bitCount(alive);
        }

        int today() {
            return day;
        }

        private boolean isOddDay() {
            return day % 2 != 0;
        }

        boolean addSentence() {
            if (sentences < 0 || sentences >= needs.length) {
                return false;
            }
            needs[sentences] = 0;
            sentences++;
            return true;
        }

        // A need that holds by now may be told again: only one sentence twice is not as told.
        boolean addNeed(int sentence, int needed) {
            if (!hasSentence(sentence) || !hasSentence(needed) || sentence == needed || sentence >= needs.length) {
                return false;
            }
            needs[sentence] |= bit(needed);
            return true;
        }

        boolean found(int sentence) {
            if (!hasSentence(sentence) || isTrue(sentence)) {
                return false;
            }
            makeTrue(sentence, NONE);
            return true;
        }

        int join(Denier who) {
            if (who == null) {
                return NO_SUCH;
            }
            if (deniers < 0 || deniers >= members.length || deniers >= known.length) {
                return NO_ROOM;
            }
            members[deniers] = who;
            known[deniers] = 0;
            alive |= bit(deniers);
            deniers++;
            return deniers - 1;
        }

        boolean learn(int denier, int sentence) {
            if (denier < 0 || denier >= known.length || has(known[denier], sentence)) {
                return false;
            }
            known[denier] |= bit(sentence);
            return true;
        }

        boolean isAllowed(int denier, int sentence) {
            Denier who = memberAt(denier);
            return who != null && isAlive(denier) && hasSentence(sentence)
                    && who.mayDispute(sentence, truth, knownTo(denier), needsOf(sentence));
        }

        boolean wouldSilence(int denier, int sentence) {
            Denier who = memberAt(denier);
            return who != null
                    && who.isSilenced(truth, knownTo(denier), needsOf(sentence), isOddDay());
        }

        int allowedTo(int denier) {
            int bits = 0;
            for (int s = 0; s < sentences; s++) {
                if (isAllowed(denier, s)) {
                    bits |= bit(s);
                }
            }
            return bits;
        }

        int silencingFor(int denier) {
            Denier who = memberAt(denier);
            if (who == null || !isAlive(denier)) {
                return 0;
            }
            int bits = 0;
            int knows = knownTo(denier);
            for (int s = 0; s < sentences; s++) {
                int need = needsOf(s);
                if (!isTrue(s) && who.mayDispute(s, truth, knows, need)
                        && who.isSilenced(truth, knows, need, isOddDay())) {
                    bits |= bit(s);
                }
            }
            return bits;
        }

        boolean dispute(int denier, int sentence) {
            boolean silenced = wouldSilence(denier, sentence);
            day++;
            if (silenced) {
                makeTrue(sentence, denier);
                learn(denier, sentence);
            }
            return silenced;
        }

        private void makeTrue(int sentence, int maker) {
            if (sentence >= 0 && sentence < makers.length && sentence < since.length) {
                truth |= bit(sentence);
                makers[sentence] = maker;
                since[sentence] = day;
            }
        }

        int ruins(int denier) {
            int fallen = 0;
            for (int s = 0; s < sentences; s++) {
                if (isTrue(s) && makerOf(s) == denier) {
                    fallen |= bit(s);
                }
            }
            // Each round but the last brings down one more at least.
            for (int round = 0; round < sentences; round++) {
                for (int s = 0; s < sentences; s++) {
                    if (isTrue(s) && (needsOf(s) & fallen) != 0) {
                        fallen |= bit(s);
                    }
                }
            }
            return fallen;
        }

        void bury(int denier, int fallen) {
            alive &= ~bit(denier);
            truth &= ~fallen;
        }

        int suspects(int sentence) {
            int bits = 0;
            int others = ~bit(sentence);
            int need = needsOf(sentence);
            for (int i = 0; i < deniers; i++) {
                Denier who = memberAt(i);
                int knows = knownTo(i) & others;
                if (who != null && who.mayDispute(sentence, truth & others, knows, need)
                        && who.isSilenced(truth & others, knows, need, false)) {
                    bits |= bit(i);
                }
            }
            return bits;
        }
    }

    /** What denials to come can bring. In mind no truth falls, so a set of true sentences is all that a later denial depends on. */
    private static final class Foresight {
        private static final int SEATS = MOST_DENIERS + 1;
        private static final int NEVER = -1;

        private int start;
        // By seat and sentence: what must be true first (or NEVER), and the steps it takes.
        private final int[] lacks = new int[SEATS * MOST_SENTENCES];
        private final int[] efforts = new int[SEATS * MOST_SENTENCES];
        // By set of true sentences: the least from there to the goal, or for the set; NONE where there is no way.
        private final int[] least = new int[SETS_OF_SENTENCES];

        void look(School school, Denier guest) {
            start = school.truth;
            Arrays.fill(lacks, NEVER);
            for (int i = 0; i < MOST_DENIERS; i++) {
                if (school.isAlive(i)) {
                    consider(i, school.memberAt(i), school.knownTo(i), school);
                }
            }
            consider(MOST_DENIERS, guest, 0, school);
        }

        // Nobody is silenced before all needs are met; so whether he may is asked as if they were true.
        private void consider(int seat, Denier who, int knows, School school) {
            if (who == null) {
                return;
            }
            for (int s = 0; s < school.countSentences() && s < MOST_SENTENCES; s++) {
                int need = school.needsOf(s);
                int at = seat * MOST_SENTENCES + s;
                if (at >= 0 && at < lacks.length && at < efforts.length
                        && who.mayDispute(s, need, knows, need)
                        && who.isSilenced(need, knows, need, false)) {
                    lacks[at] = need & ~knows;
                    efforts[at] = who.effort(Integer.bitCount(need));
                }
            }
        }

        // The steps of whoever needs fewest to make the sentence true; NEVER if nobody can.
        private int cheapest(int truth, int sentence) {
            int best = NEVER;
            if (sentence < 0 || has(truth, sentence)) {
                return best;
            }
            for (int at = sentence; at < lacks.length && at < efforts.length; at += MOST_SENTENCES) {
                if (lacks[at] != NEVER && within(lacks[at], truth) && (best == NEVER || efforts[at] < best)) {
                    best = efforts[at];
                }
            }
            return best;
        }

        int reachable() {
            int truth = start;
            for (int round = 0; round < MOST_SENTENCES; round++) {
                for (int s = 0; s < MOST_SENTENCES; s++) {
                    if (cheapest(truth, s) != NEVER) {
                        truth |= bit(s);
                    }
                }
            }
            return truth;
        }

        int fewestDenials(int goal) {
            plan(goal, false);
            return leastOf(start);
        }

        int fewestSteps(int goal) {
            plan(goal, true);
            return leastOf(start);
        }

        int beginning(int goal) {
            int fewest = fewestDenials(goal);
            if (fewest < 1) {
                return NONE;
            }
            for (int s = 0; s < MOST_SENTENCES; s++) {
                if (cheapest(start, s) != NEVER && leastOf(start | bit(s)) == fewest - 1) {
                    return s;
                }
            }
            return NONE;
        }

        private int leastOf(int truth) {
            return truth >= 0 && truth < least.length ? least[truth] : NONE;
        }

        // From the largest set down, for a denial only leads to a larger one.
        private void plan(int goal, boolean bySteps) {
            for (int truth = least.length - 1; truth >= 0; truth--) {
                if (within(start, truth)) {
                    least[truth] = within(goal, truth) ? 0 : leastFrom(truth, bySteps);
                }
            }
        }

        private int leastFrom(int truth, boolean bySteps) {
            int best = NONE;
            for (int s = 0; s < MOST_SENTENCES; s++) {
                int effort = cheapest(truth, s);
                int rest = leastOf(truth | bit(s));
                if (effort == NEVER || rest == NONE) {
                    continue;
                }
                int sum = rest + (bySteps ? effort : 1);
                if (best == NONE || sum < best) {
                    best = sum;
                }
            }
            return best;
        }

        int together(School school, boolean prices) {
            Arrays.fill(least, NONE);
            least[0] = 0;
            for (int i = 0; i < MOST_DENIERS; i++) {
                Denier who = school.memberAt(i);
                if (who != null) {
                    letOneJoin(school.silencingFor(i), who.asks());
                }
            }
            int most = 0;
            int cheapest = 0;
            for (int set = 0; set < least.length; set++) {
                int size = Integer.bitCount(set);
                if (least[set] != NONE && (size > most || size == most && least[set] < cheapest)) {
                    most = size;
                    cheapest = least[set];
                }
            }
            return prices ? cheapest : most;
        }

        // From the largest set down, so that nobody denies twice.
        private void letOneJoin(int silences, int asks) {
            for (int set = least.length - 1; set >= 0; set--) {
                for (int s = 0; s < MOST_SENTENCES && least[set] != NONE; s++) {
                    int larger = set | bit(s);
                    if (!has(silences, s) || larger == set || larger >= least.length) {
                        continue;
                    }
                    if (least[larger] == NONE || least[set] + asks < least[larger]) {
                        least[larger] = least[set] + asks;
                    }
                }
            }
        }
    }

    /** A row of bytes, shorts or ints; the numbers are held as they are once cut to the sort. */
    private static final class Row {
        private final int sort;
        private final int[] cells;

        Row(int sort, int[] cells) {
            this.sort = sort;
            this.cells = cells;
        }

        boolean isOf(int wanted) {
            return sort == wanted;
        }

        int size() {
            return cells.length;
        }

        boolean hasPlace(int i) {
            return i >= 0 && i < cells.length;
        }

        boolean hasStretch(int from, int n) {
            return n >= 0 && from >= 0 && from <= cells.length && n <= cells.length - from;
        }

        // 0 outside: no letter, no digit and no end of a statement.
        int at(int i) {
            return i >= 0 && i < cells.length ? cells[i] : 0;
        }

        void store(int i, int v) {
            if (i >= 0 && i < cells.length) {
                cells[i] = cut(v);
            }
        }

        private int cut(int v) {
            if (sort == BYTES) {
                return (byte) v;
            }
            return sort == SHORTS ? (short) v : v;
        }
    }
}
