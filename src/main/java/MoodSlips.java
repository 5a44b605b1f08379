import java.util.Arrays;

/** A schoolroom of slips: sentences of kinds and names, and what follows from which. */
public final class MoodSlips {
    public static final int NONE = -1;

    private static final int BAD_NUMBER = -1;
    private static final int NO_SUCH = -2;
    private static final int CANNOT_BE = -3;
    private static final int NO_ROOM = -5;
    private static final int BAD_TEXT = -6;

    private static final int KINDS = 8;
    private static final int NAMES = 4;
    private static final int MOODS = 4;
    private static final int REGIONS = 256;
    private static final int WORDS = 4;
    private static final int NUMBERS = 256;
    private static final int MOST_SLIPS = 12;
    private static final int MOST_BOUND = 12;
    private static final int MOST_DRAWN = 12;
    private static final int IMAGES = 2;
    private static final int MOST_BYTES = 400;
    private static final int FED_BYTES = 20;
    private static final int MOST_SEED = 1000000;
    private static final int MODULUS = 1000003;
    // Twelve sentences and one more that is asked about say of thirteen things at most.
    private static final int MOST_WANTS = 13;

    private static final int BARS = 0;
    private static final int THERE = 1;
    private static final int NAMED = 2;

    private static final int MOOD_A = 0;
    private static final int MOOD_E = 1;
    private static final int MOOD_I = 2;
    private static final int MOOD_O = 3;

    // The kinds 0 to 5 repeat within 64 regions; 6 and 7 take whole words.
    private static final long[] PATTERNS = {
        0xAAAAAAAAAAAAAAAAL, 0xCCCCCCCCCCCCCCCCL, 0xF0F0F0F0F0F0F0F0L,
        0xFF00FF00FF00FF00L, 0xFFFF0000FFFF0000L, 0xFFFFFFFF00000000L
    };
    private static final long[] NO_REGIONS = {0L, 0L, 0L, 0L};

    private final Reader reader = new Reader();
    private final Desk desk = new Desk();
    private final Desk[] images = {new Desk(), new Desk()};
    private final Theory theory = new Theory();
    private final Sentence simple = new Sentence(new byte[0]);
    private final Denial denial = new Denial();
    private final Quarrels quarrelling = new Quarrels();
    private final Fewest sufficing = new Fewest();
    private final Syllogism syllogism = new Syllogism();
    private final Derivation derivation = new Derivation();
    private final int[] riddleNumbers = new int[MOST_DRAWN];
    // A riddle of nothing is there, too: only ahead of any riddle there is none.
    private int riddleSize = NONE;
    private final int[] refusals = new int[5];
    private int latestRefusal;

    /** No slips, no question. */
    public MoodSlips() {
    }

    // ---- the tape, and what is read from it ----

    /** Twenty bytes come behind the tape: how many it has. */
    public int feed(int a, int b, int c, int d, int e) {
        if (reader.size + FED_BYTES > MOST_BYTES) {
            return NONE;
        }
        reader.append(a);
        reader.append(b);
        reader.append(c);
        reader.append(d);
        reader.append(e);
        return reader.size;
    }

    /** The tape has its first n bytes alone. */
    public int end(int n) {
        if (n < 0 || n > reader.size) {
            return NONE;
        }
        reader.size = n;
        return n;
    }

    /** The tape becomes a slip: its number. */
    public int slip() {
        if (desk.slipCount >= MOST_SLIPS) {
            reader.size = 0;
            return refuse(NO_ROOM);
        }
        Sentence sentence = reader.read();
        if (sentence == null) {
            return refuse(BAD_TEXT);
        }
        int number = desk.slipCount;
        desk.slips[number] = sentence;
        desk.slipCount = number + 1;
        forgetFindings();
        return grant(number);
    }

    /** The tape becomes the question. */
    public int question() {
        Sentence sentence = reader.read();
        if (sentence == null) {
            return refuse(BAD_TEXT);
        }
        return ask(sentence);
    }

    /** The fault of the latest text that was read. */
    public int fault() {
        return reader.faultPlace;
    }

    private int ask(Sentence sentence) {
        desk.asked = sentence;
        sufficing.known = false;
        return grant(0);
    }

    // ---- slips, question, existence ----

    /** A slip becomes what the question is. */
    public int write(int slip) {
        if (slip < 0 || slip >= desk.slipCount) {
            return refuse(NO_SUCH);
        }
        if (desk.asked == null) {
            return refuse(CANNOT_BE);
        }
        desk.slips[slip] = desk.asked;
        forgetFindings();
        return grant(0);
    }

    /** A slip becomes the question. */
    public int take(int slip) {
        Sentence sentence = desk.slipAt(slip);
        if (sentence == null) {
            return refuse(NO_SUCH);
        }
        return ask(sentence);
    }

    /** Existence is told or not: what it was. */
    public int existence(int told) {
        if (told != 0 && told != 1) {
            return refuse(BAD_NUMBER);
        }
        int before = desk.told ? 1 : 0;
        desk.told = told == 1;
        if (before != told) {
            forgetFindings();
        }
        return grant(before);
    }

    /** One thing about a slip or the question. */
    public int of(int slip, int what) {
        Sentence sentence = desk.sentenceAt(slip);
        if (sentence == null) {
            return NONE;
        }
        switch (what) {
            case 0:
                return sentence.says;
            case 1:
                return sentence.mood;
            case 2:
                return sentence.subjectKind;
            case 3:
                return sentence.predicateKind;
            case 4:
                return sentence.bearer;
            case 5:
                return sizeOf(sentence.set);
            default:
                return NONE;
        }
    }

    /** Whether a region is in the set of a slip or the question. */
    public int has(int slip, int region) {
        Sentence sentence = desk.sentenceAt(slip);
        if (sentence == null || region < 0 || region >= REGIONS) {
            return NONE;
        }
        return isIn(sentence.set, region) ? 1 : 0;
    }

    /** The signs of a slip or the question as it is written. */
    public int letter(int slip, int i) {
        Sentence sentence = desk.sentenceAt(slip);
        if (sentence == null) {
            return NONE;
        }
        if (i == NONE) {
            return sentence.text.length;
        }
        return i >= 0 && i < sentence.text.length ? sentence.text[i] : NONE;
    }

    // ---- what follows from a heap ----

    /** Whether a heap quarrels. */
    public int quarrels(int heap) {
        if (!desk.hasHeap(heap)) {
            return NONE;
        }
        assume(heap);
        return theory.fits() ? 0 : 1;
    }

    /** Whether the question follows from a heap. */
    public int follows(int heap) {
        Sentence asked = desk.asked;
        if (asked == null || !desk.hasHeap(heap)) {
            return NONE;
        }
        assume(heap);
        return theory.canFail(asked, desk.told) ? 0 : 1;
    }

    /** Whether it follows that the question is not so. */
    public int denied(int heap) {
        Sentence asked = desk.asked;
        if (asked == null || !desk.hasHeap(heap)) {
            return NONE;
        }
        assume(heap);
        return theory.canHold(asked, desk.told) ? 0 : 1;
    }

    /** In how many regions things can be by a heap. */
    public int open(int heap) {
        if (!desk.hasHeap(heap)) {
            return NONE;
        }
        assume(heap);
        return sizeOf(theory.free);
    }

    /** The idle slips of a heap, as bits. */
    public int idle(int heap) {
        if (!desk.hasHeap(heap)) {
            return NONE;
        }
        int bits = 0;
        for (int i = 0; i < desk.slipCount; i++) {
            int bit = 1 << i;
            Sentence sentence = desk.slips[i];
            if ((heap & bit) == 0 || sentence == null) {
                continue;
            }
            assume(heap & ~bit);
            if (!theory.canFail(sentence, desk.told)) {
                bits |= bit;
            }
        }
        return bits;
    }

    private void assume(int heap) {
        theory.clear();
        for (int i = 0; i < desk.slipCount; i++) {
            Sentence sentence = desk.slips[i];
            if ((heap & (1 << i)) != 0 && sentence != null) {
                theory.grantClaim(sentence, desk.told);
            }
        }
    }

    // ---- the fewest slips ----

    /** The fewest slips that suffice. */
    public int least(int what) {
        Sentence asked = desk.asked;
        if (asked == null) {
            return NONE;
        }
        if (!sufficing.known) {
            findSufficing(asked);
        }
        return sufficing.tell(what);
    }

    private void findSufficing(Sentence asked) {
        sufficing.clear();
        sufficing.known = true;
        int heaps = 1 << desk.slipCount;
        assume(heaps - 1);
        // What does not follow from all slips follows from none of their heaps.
        if (theory.canFail(asked, desk.told)) {
            return;
        }
        for (int size = 0; size <= desk.slipCount && sufficing.ways == 0; size++) {
            for (int heap = 0; heap < heaps; heap++) {
                if (Integer.bitCount(heap) == size && suffices(heap, asked)) {
                    sufficing.note(size, heap);
                }
            }
        }
    }

    private boolean suffices(int heap, Sentence asked) {
        assume(heap);
        return theory.fits() && !theory.canFail(asked, desk.told);
    }

    /** The i-th least quarrelling heap, as bits. */
    public int quarrel(int i) {
        findQuarrels();
        return i == NONE ? quarrelling.leastCount : quarrelling.leastAt(i);
    }

    /** The fewest slips that must be left out so that the others do not quarrel. */
    public int calm(int what) {
        findQuarrels();
        return quarrelling.leftOut.tell(what);
    }

    private void findQuarrels() {
        if (quarrelling.known) {
            return;
        }
        int heaps = 1 << desk.slipCount;
        quarrelling.start(heaps);
        assume(heaps - 1);
        // Where all slips agree no heap of them quarrels.
        if (!theory.fits()) {
            for (int heap = 1; heap < heaps; heap++) {
                if (!quarrelling.markByPart(heap)) {
                    assume(heap);
                    quarrelling.mark(heap, theory.fits());
                }
            }
        }
        quarrelling.findLeftOut();
    }

    private void forgetFindings() {
        quarrelling.known = false;
        sufficing.known = false;
        derivation.known = false;
    }

    // ---- simple sentences and a heap ----

    /** The first simple sentence that suffices together with a heap. */
    public int hint(int heap) {
        Sentence asked = desk.asked;
        if (asked == null || !desk.hasHeap(heap)) {
            return NONE;
        }
        int own = asked.number();
        for (int number = 0; number < NUMBERS; number++) {
            if (number == own || !isSimple(number)) {
                continue;
            }
            simple.setNumber(number);
            assume(heap);
            theory.grantClaim(simple, desk.told);
            if (theory.fits() && !theory.canFail(asked, desk.told)) {
                return number;
            }
        }
        return NONE;
    }

    /** What follows of two kinds from a heap, as bits. */
    public int between(int heap, int one, int other) {
        if (!desk.hasHeap(heap) || !areTwoKinds(one, other)) {
            return NONE;
        }
        assume(heap);
        int bits = 0;
        for (int mood = 0; mood < MOODS; mood++) {
            if (simpleFollows(mood, one, other, desk.told)) {
                bits |= 1 << mood;
            }
        }
        if (simpleFollows(MOOD_A, other, one, desk.told)) {
            bits |= 16;
        }
        if (simpleFollows(MOOD_O, other, one, desk.told)) {
            bits |= 32;
        }
        return bits;
    }

    /** How two slips stand to one another. */
    public int square(int one, int other) {
        Sentence first = desk.slipAt(one);
        Sentence second = desk.slipAt(other);
        if (first == null || second == null) {
            return NONE;
        }
        boolean told = desk.told;
        theory.clear();
        theory.grantClaim(second, told);
        boolean firstFollows = !theory.canFail(first, told);
        theory.clear();
        theory.grantClaim(first, told);
        boolean secondFollows = !theory.canFail(second, told);
        boolean bothSo = theory.canHold(second, told);
        boolean neitherSo = canBothFail(first, second);
        if (firstFollows && secondFollows) {
            return 1;
        }
        if (!bothSo) {
            return neitherSo ? 4 : 6;
        }
        if (!neitherSo) {
            return 5;
        }
        return secondFollows ? 2 : firstFollows ? 3 : 0;
    }

    private boolean canBothFail(Sentence first, Sentence second) {
        theory.clear();
        theory.denyClaim(first);
        if (theory.canFail(second, desk.told)) {
            return true;
        }
        if (!first.tellsSubject(desk.told)) {
            return false;
        }
        theory.clear();
        theory.bar(first.subject);
        return theory.canFail(second, desk.told);
    }

    /** Whether a simple sentence follows from a heap. */
    public int says(int heap, int mood, int subject, int predicate) {
        if (!desk.hasHeap(heap) || !isMood(mood) || !areTwoKinds(subject, predicate)) {
            return NONE;
        }
        assume(heap);
        return simpleFollows(mood, subject, predicate, desk.told) ? 1 : 0;
    }

    /** How many simple sentences of a mood follow from a heap. */
    public int all(int heap, int mood) {
        if (!desk.hasHeap(heap) || !isMood(mood)) {
            return NONE;
        }
        assume(heap);
        return countFollowing(mood, desk.told);
    }

    private int countFollowing(int mood, boolean told) {
        int found = 0;
        for (int subject = 0; subject < KINDS; subject++) {
            for (int predicate = 0; predicate < KINDS; predicate++) {
                if (subject != predicate && simpleFollows(mood, subject, predicate, told)) {
                    found++;
                }
            }
        }
        return found;
    }

    private boolean simpleFollows(int mood, int subject, int predicate, boolean told) {
        simple.setSimple(mood, subject, predicate);
        return !theory.canFail(simple, told);
    }

    // ---- worlds and names ----

    /** The regions of the first of the smallest denying worlds. */
    public int world(int heap, int i) {
        Sentence asked = desk.asked;
        if (asked == null || !desk.hasHeap(heap)) {
            return NONE;
        }
        denial.clear();
        assume(heap);
        theory.denyClaim(asked);
        denial.consider(theory);
        if (asked.tellsSubject(desk.told)) {
            assume(heap);
            theory.bar(asked.subject);
            denial.consider(theory);
        }
        if (denial.size == 0) {
            return NONE;
        }
        if (i == NONE) {
            return denial.size;
        }
        return i >= 0 && i < denial.size ? denial.row[i] : NONE;
    }

    /** In how many regions the thing of a name can be by a heap, and the lowest. */
    public int name(int heap, int name, int what) {
        if (!desk.hasHeap(heap) || name < 0 || name >= NAMES) {
            return NONE;
        }
        assume(heap);
        if (!theory.fits()) {
            return NONE;
        }
        switch (what) {
            case 0:
                return theory.countPlaces(name);
            case 1:
                return theory.lowestPlace(name);
            default:
                return NONE;
        }
    }

    // ---- two slips that drop a middle ----

    /** Figure, middle and conclusion of a major and a minor. */
    public int pair(int major, int minor, int what) {
        if (!pairSlips(major, minor)) {
            return NONE;
        }
        switch (what) {
            case 0:
                return syllogism.figure;
            case 1:
                return syllogism.middle;
            case 2:
                syllogism.learn(desk.told);
                return syllogism.conclude();
            case 3:
                return syllogism.subject;
            case 4:
                return syllogism.predicate;
            default:
                return NONE;
        }
    }

    /** What is wrong with a mood concluded from a major and a minor. */
    public int wrong(int major, int minor, int mood) {
        if (!isMood(mood) || !pairSlips(major, minor)) {
            return NONE;
        }
        return syllogism.judge(mood, desk.told);
    }

    private boolean pairSlips(int major, int minor) {
        Sentence first = desk.slipAt(major);
        Sentence second = desk.slipAt(minor);
        return first != null && second != null && syllogism.join(first.number(), second.number());
    }

    /** The round in which a simple sentence is derived. */
    public int derived(int mood, int subject, int predicate) {
        if (!isMood(mood) || !areTwoKinds(subject, predicate)) {
            return NONE;
        }
        findDerived();
        return derivation.rounds[numberOf(mood, subject, predicate)];
    }

    /** The major or the minor by which a simple sentence is derived first. */
    public int by(int mood, int subject, int predicate, int what) {
        if (!isMood(mood) || !areTwoKinds(subject, predicate)) {
            return NONE;
        }
        findDerived();
        int number = numberOf(mood, subject, predicate);
        if (derivation.rounds[number] < 1) {
            return NONE;
        }
        return what == 0 ? derivation.majors[number] : what == 1 ? derivation.minors[number] : NONE;
    }

    /** How many are derived, and in how many rounds. */
    public int derive(int what) {
        findDerived();
        return what == 0 ? derivation.total : what == 1 ? derivation.lastRound : NONE;
    }

    private void findDerived() {
        if (derivation.known) {
            return;
        }
        derivation.start();
        for (int i = 0; i < desk.slipCount; i++) {
            Sentence sentence = desk.slips[i];
            if (sentence != null) {
                derivation.addGiven(sentence.number());
            }
        }
        syllogism.learn(desk.told);
        derivation.run(syllogism);
    }

    // ---- a dispute ----

    /** The question is the first sentence that one is bound to. */
    public int posit() {
        Sentence asked = desk.asked;
        if (asked == null) {
            return refuse(CANNOT_BE);
        }
        theory.clear();
        if (!theory.canHold(asked, false)) {
            return refuse(CANNOT_BE);
        }
        desk.boundCount = 0;
        desk.bind(asked, true);
        return grant(0);
    }

    /** Whether the question must be granted, denied, or is beside the point. */
    public int propose() {
        Sentence asked = desk.asked;
        if (asked == null || desk.boundCount == 0) {
            return refuse(CANNOT_BE);
        }
        if (desk.boundCount >= MOST_BOUND) {
            return refuse(NO_ROOM);
        }
        assumeBound();
        if (!theory.canFail(asked, false)) {
            desk.bind(asked, true);
            return grant(1);
        }
        if (!theory.canHold(asked, false)) {
            desk.bind(asked, false);
            return grant(2);
        }
        return grant(0);
    }

    /** To how many sentences one is bound, or how to the i-th one. */
    public int bound(int i) {
        if (i == NONE) {
            return desk.boundCount;
        }
        if (i < 0 || i >= desk.boundCount) {
            return NONE;
        }
        return desk.boundSo[i] ? 1 : 0;
    }

    private void assumeBound() {
        theory.clear();
        for (int i = 0; i < desk.boundCount; i++) {
            Sentence sentence = desk.bounds[i];
            if (sentence == null) {
                continue;
            }
            if (desk.boundSo[i]) {
                theory.grantClaim(sentence, false);
            } else {
                theory.denyClaim(sentence);
            }
        }
    }

    // ---- riddles ----

    /** A riddle of n simple sentences: how many are kept. */
    public int riddle(int seed, int n) {
        if (seed < 0 || seed > MOST_SEED || n < 0 || n > MOST_DRAWN) {
            return refuse(BAD_NUMBER);
        }
        int state = seed;
        riddleSize = 0;
        theory.clear();
        for (int i = 0; i < n; i++) {
            state = nextState(state);
            int mood = state % MOODS;
            state = nextState(state);
            int subject = state % KINDS;
            state = nextState(state);
            int predicate = state % (KINDS - 1);
            if (predicate >= subject) {
                predicate++;
            }
            simple.setSimple(mood, subject, predicate);
            if (theory.canHold(simple, false)) {
                theory.grantClaim(simple, false);
                riddleNumbers[riddleSize] = numberOf(mood, subject, predicate);
                riddleSize++;
            }
        }
        return grant(riddleSize);
    }

    private static int nextState(int state) {
        return (state * 1103 + 12345) % MODULUS;
    }

    /** One thing about a sentence of the latest riddle, or about all of them. */
    public int drawn(int i, int what) {
        if (riddleSize == NONE) {
            return NONE;
        }
        if (i == NONE) {
            return what == MOOD_A || what == MOOD_E ? countInRiddle(what) : NONE;
        }
        if (i < 0 || i >= riddleSize) {
            return NONE;
        }
        int number = riddleNumbers[i];
        switch (what) {
            case 0:
                return moodOf(number);
            case 1:
                return subjectOf(number);
            case 2:
                return predicateOf(number);
            default:
                return NONE;
        }
    }

    private int countInRiddle(int mood) {
        theory.clear();
        for (int i = 0; i < riddleSize; i++) {
            simple.setNumber(riddleNumbers[i]);
            theory.grantClaim(simple, false);
        }
        return countFollowing(mood, false);
    }

    // ---- images ----

    /** An image is kept. */
    public int image(int k) {
        if (k < 0 || k >= IMAGES) {
            return refuse(BAD_NUMBER);
        }
        images[k].copyFrom(desk);
        images[k].kept = true;
        return grant(0);
    }

    /** Back to an image. */
    public int back(int k) {
        if (k < 0 || k >= IMAGES) {
            return refuse(BAD_NUMBER);
        }
        if (!images[k].kept) {
            return refuse(NO_SUCH);
        }
        desk.copyFrom(images[k]);
        forgetFindings();
        return grant(0);
    }

    // ---- counts ----

    /** How many there are of something. */
    public int count(int what) {
        switch (what) {
            case 0:
                return desk.slipCount;
            case 1:
                return desk.asked == null ? 0 : 1;
            case 2:
                return desk.boundCount;
            case 3:
                return desk.told ? 1 : 0;
            case 4:
                return reader.size;
            default:
                return what >= 5 && what <= 9 ? refusals[what - 5] : NONE;
        }
    }

    /** What the latest call that can be refused was refused by. */
    public int status() {
        return latestRefusal;
    }

    private int grant(int answer) {
        latestRefusal = 0;
        return answer;
    }

    private int refuse(int why) {
        latestRefusal = why;
        // There is no -4: the last two codes stand one place lower.
        int place = why >= CANNOT_BE ? -1 - why : -2 - why;
        if (place >= 0 && place < refusals.length) {
            refusals[place]++;
        }
        return why;
    }

    // ---- numbers of simple sentences, and sets of regions ----

    private static boolean isMood(int mood) {
        return mood >= 0 && mood < MOODS;
    }

    private static boolean areTwoKinds(int one, int other) {
        return one >= 0 && one < KINDS && other >= 0 && other < KINDS && one != other;
    }

    private static int numberOf(int mood, int subject, int predicate) {
        return 64 * mood + 8 * subject + predicate;
    }

    private static int moodOf(int number) {
        return (number >> 6) & 3;
    }

    private static int subjectOf(int number) {
        return (number >> 3) & 7;
    }

    private static int predicateOf(int number) {
        return number & 7;
    }

    private static boolean isSimple(int number) {
        return number >= 0 && number < NUMBERS && subjectOf(number) != predicateOf(number);
    }

    private static boolean isUniversal(int mood) {
        return mood == MOOD_A || mood == MOOD_E;
    }

    private static boolean isNegative(int mood) {
        return mood == MOOD_E || mood == MOOD_O;
    }

    private static long kindWord(int kind, int word) {
        if (kind >= 0 && kind < PATTERNS.length) {
            return PATTERNS[kind];
        }
        int bit = kind == 6 ? 1 : 2;
        return (word & bit) != 0 ? -1L : 0L;
    }

    private static int sizeOf(long[] set) {
        int size = 0;
        for (int w = 0; w < set.length; w++) {
            size += Long.bitCount(set[w]);
        }
        return size;
    }

    private static boolean isIn(long[] set, int region) {
        int word = region >> 6;
        return word >= 0 && word < set.length && ((set[word] >>> (region & 63)) & 1L) != 0L;
    }

    /** A sentence and what it says; a slip's never changes, so images may share it. */
    private static final class Sentence {
        int says = BARS;
        int bearer = NONE;
        boolean hasSubject;
        int mood = NONE;
        int subjectKind = NONE;
        int predicateKind = NONE;
        final long[] set = new long[WORDS];
        final long[] subject = new long[WORDS];
        final byte[] text;

        Sentence(byte[] text) {
            this.text = text;
        }

        int number() {
            return mood == NONE ? NONE : numberOf(mood, subjectKind, predicateKind);
        }

        void setNumber(int number) {
            setSimple(moodOf(number), subjectOf(number), predicateOf(number));
        }

        void setSimple(int newMood, int newSubject, int newPredicate) {
            mood = newMood;
            subjectKind = newSubject;
            predicateKind = newPredicate;
            says = isUniversal(mood) ? BARS : THERE;
            hasSubject = isUniversal(mood);
            boolean isAway = mood == MOOD_A || mood == MOOD_O;
            for (int w = 0; w < WORDS; w++) {
                long own = kindWord(subjectKind, w);
                long other = kindWord(predicateKind, w);
                subject[w] = own;
                set[w] = own & (isAway ? ~other : other);
            }
        }

        boolean tellsSubject(boolean told) {
            return told && hasSubject;
        }
    }

    /** All that an image keeps. */
    private static final class Desk {
        final Sentence[] slips = new Sentence[MOST_SLIPS];
        int slipCount;
        Sentence asked;
        boolean told;
        final Sentence[] bounds = new Sentence[MOST_BOUND];
        final boolean[] boundSo = new boolean[MOST_BOUND];
        int boundCount;
        boolean kept;

        boolean hasHeap(int heap) {
            return heap >= 0 && heap < (1 << slipCount);
        }

        Sentence slipAt(int slip) {
            return slip >= 0 && slip < slipCount ? slips[slip] : null;
        }

        Sentence sentenceAt(int slip) {
            return slip == NONE ? asked : slipAt(slip);
        }

        void bind(Sentence sentence, boolean so) {
            if (boundCount < MOST_BOUND) {
                bounds[boundCount] = sentence;
                boundSo[boundCount] = so;
                boundCount++;
            }
        }

        void copyFrom(Desk other) {
            for (int i = 0; i < MOST_SLIPS; i++) {
                slips[i] = other.slips[i];
            }
            slipCount = other.slipCount;
            asked = other.asked;
            told = other.told;
            for (int i = 0; i < MOST_BOUND; i++) {
                bounds[i] = other.bounds[i];
                boundSo[i] = other.boundSo[i];
            }
            boundCount = other.boundCount;
        }
    }

    /** What several claims leave: free regions, things that are wanted there, places of names. */
    private static final class Theory {
        final long[] free = new long[WORDS];
        final long[] things = new long[MOST_WANTS * WORDS];
        int thingCount;
        final long[] places = new long[NAMES * WORDS];
        // A name of which nothing is said wants no region of its own in a smallest world.
        int placed;

        void clear() {
            Arrays.fill(free, -1L);
            Arrays.fill(places, -1L);
            placed = 0;
            thingCount = 0;
        }

        void grantClaim(Sentence claim, boolean told) {
            if (claim.says == BARS) {
                bar(claim.set);
                if (claim.tellsSubject(told)) {
                    want(claim.subject);
                }
            } else if (claim.says == THERE) {
                want(claim.set);
            } else {
                place(claim.bearer, claim.set, 0L);
            }
        }

        /** That a claim is not so, but for a subject told besides. */
        void denyClaim(Sentence claim) {
            if (claim.says == BARS) {
                want(claim.set);
            } else if (claim.says == THERE) {
                bar(claim.set);
            } else {
                place(claim.bearer, claim.set, -1L);
            }
        }

        void bar(long[] set) {
            for (int w = 0; w < WORDS; w++) {
                free[w] &= ~set[w];
            }
        }

        private void want(long[] set) {
            if (thingCount < MOST_WANTS) {
                System.arraycopy(set, 0, things, thingCount * WORDS, WORDS);
                thingCount++;
            }
        }

        private void place(int bearer, long[] set, long turn) {
            if (bearer >= 0 && bearer < NAMES) {
                placed |= 1 << bearer;
                for (int w = 0; w < WORDS; w++) {
                    places[bearer * WORDS + w] &= set[w] ^ turn;
                }
            }
        }

        boolean fits() {
            return fitsWithout(NO_REGIONS);
        }

        /** Whether there is a world that fits, with nothing in some regions besides. */
        private boolean fitsWithout(long[] barred) {
            for (int i = 0; i < thingCount; i++) {
                if (!meets(things, i * WORDS, barred)) {
                    return false;
                }
            }
            // Each name has a thing, so a world without things never fits.
            for (int i = 0; i < NAMES; i++) {
                if (!meets(places, i * WORDS, barred)) {
                    return false;
                }
            }
            return true;
        }

        private boolean meets(long[] sets, int at, long[] barred) {
            long met = 0L;
            for (int w = 0; w < WORDS; w++) {
                met |= sets[at + w] & free[w] & ~barred[w];
            }
            return met != 0L;
        }

        boolean canHold(Sentence claim, boolean told) {
            if (claim.says == BARS) {
                return fitsWithout(claim.set)
                    && (!claim.tellsSubject(told) || meets(claim.subject, 0, claim.set));
            }
            if (claim.says == THERE) {
                return fitsWithout(NO_REGIONS) && meets(claim.set, 0, NO_REGIONS);
            }
            return fitsWithout(NO_REGIONS) && canBePlaced(claim, 0L);
        }

        boolean canFail(Sentence claim, boolean told) {
            if (claim.says == BARS) {
                return fitsWithout(NO_REGIONS) && meets(claim.set, 0, NO_REGIONS)
                    || claim.tellsSubject(told) && fitsWithout(claim.subject);
            }
            if (claim.says == THERE) {
                return fitsWithout(claim.set);
            }
            return fitsWithout(NO_REGIONS) && canBePlaced(claim, -1L);
        }

        private boolean canBePlaced(Sentence claim, long turn) {
            long met = 0L;
            for (int w = 0; w < WORDS; w++) {
                met |= placeWord(claim.bearer, w) & (claim.set[w] ^ turn);
            }
            return met != 0L;
        }

        private long placeWord(int bearer, int word) {
            if (bearer < 0 || bearer >= NAMES || word < 0 || word >= WORDS) {
                return 0L;
            }
            return places[bearer * WORDS + word] & free[word];
        }

        int countPlaces(int bearer) {
            int found = 0;
            for (int w = 0; w < WORDS; w++) {
                found += Long.bitCount(placeWord(bearer, w));
            }
            return found;
        }

        int lowestPlace(int bearer) {
            for (int w = 0; w < WORDS; w++) {
                long word = placeWord(bearer, w);
                if (word != 0L) {
                    return 64 * w + Long.numberOfTrailingZeros(word);
                }
            }
            return NONE;
        }

        int countWants() {
            return thingCount + Integer.bitCount(placed);
        }

        /** Which of the wants a thing in a region meets, as bits. */
        int wantsMet(int region) {
            if (!isIn(free, region)) {
                return 0;
            }
            int word = region >> 6;
            int shift = region & 63;
            int bits = 0;
            for (int i = 0; i < thingCount; i++) {
                bits |= (int) ((things[i * WORDS + word] >>> shift) & 1L) << i;
            }
            int next = thingCount;
            for (int i = 0; i < NAMES; i++) {
                if ((placed & (1 << i)) != 0) {
                    bits |= (int) ((places[i * WORDS + word] >>> shift) & 1L) << next;
                    next++;
                }
            }
            return bits;
        }
    }

    /** The first of the smallest worlds that were considered. */
    private static final class Denial {
        final int[] row = new int[MOST_WANTS];
        int size;
        final int[] met = new int[REGIONS];
        final int[] masks = new int[REGIONS];
        int maskCount;
        byte[] fewest = new byte[2];
        final int[] trial = new int[MOST_WANTS];
        int trialSize;

        void clear() {
            size = 0;
        }

        void consider(Theory theory) {
            int wants = theory.countWants();
            if (!theory.fits() || wants > MOST_WANTS) {
                return;
            }
            int full = (1 << Math.max(wants, 1)) - 1;
            maskCount = 0;
            for (int region = 0; region < REGIONS; region++) {
                // Where nothing is wanted, any free region makes the one thing there must be.
                int bits = wants > 0 ? theory.wantsMet(region) : isIn(theory.free, region) ? 1 : 0;
                met[region] = bits;
                noteMask(bits);
            }
            countFewest(full);
            fillTrial(full);
            if (size == 0 || trialSize < size || trialSize == size && trialIsAhead()) {
                size = trialSize;
                System.arraycopy(trial, 0, row, 0, trialSize);
            }
        }

        /** Only masks that are within no other one can be needed to count the fewest. */
        private void noteMask(int bits) {
            if (bits == 0) {
                return;
            }
            int stay = 0;
            for (int i = 0; i < maskCount; i++) {
                // None has been moved by then: what is within bits would be within this one.
                if ((bits & ~masks[i]) == 0) {
                    return;
                }
                if ((masks[i] & ~bits) != 0) {
                    masks[stay] = masks[i];
                    stay++;
                }
            }
            if (stay < REGIONS) {
                masks[stay] = bits;
                stay++;
            }
            maskCount = stay;
        }

        /** For each set of wants, how many regions meet it at the fewest. */
        private void countFewest(int full) {
            if (fewest.length <= full) {
                fewest = new byte[full + 1];
            }
            fewest[0] = 0;
            for (int rest = 1; rest <= full; rest++) {
                int best = MOST_WANTS;
                int lowest = rest & -rest;
                for (int i = 0; i < maskCount; i++) {
                    if ((masks[i] & lowest) != 0) {
                        best = Math.min(best, fewest[rest & ~masks[i]] + 1);
                    }
                }
                fewest[rest] = (byte) best;
            }
        }

        /** A region of some smallest row that is lower than all others is the first of the first row. */
        private void fillTrial(int full) {
            trialSize = 0;
            int rest = full;
            for (int region = 0; region < REGIONS && rest != 0; region++) {
                int after = rest & ~met[region];
                if (after != rest && fewest[after] < fewest[rest] && trialSize < MOST_WANTS) {
                    trial[trialSize] = region;
                    trialSize++;
                    rest = after;
                }
            }
        }

        private boolean trialIsAhead() {
            for (int i = 0; i < trialSize; i++) {
                if (trial[i] != row[i]) {
                    return trial[i] < row[i];
                }
            }
            return false;
        }
    }

    /** The fewest slips that do something: how many, in how many ways, the lowest as bits. */
    private static final class Fewest {
        boolean known;
        int size;
        int ways;
        int lowest;

        void clear() {
            size = NONE;
            ways = 0;
            lowest = NONE;
        }

        void note(int slips, int heap) {
            if (ways == 0) {
                size = slips;
                lowest = heap;
            }
            ways++;
        }

        int tell(int what) {
            switch (what) {
                case 0:
                    return size;
                case 1:
                    return ways;
                case 2:
                    return lowest;
                default:
                    return NONE;
            }
        }
    }

    /** Which heaps quarrel, and which of those are least. */
    private static final class Quarrels {
        static final int CALM = 0;
        static final int MORE = 1;
        static final int LEAST = 2;

        boolean known;
        byte[] marks = new byte[1];
        int heaps = 1;
        int leastCount;
        final Fewest leftOut = new Fewest();

        void start(int heapCount) {
            if (heapCount > marks.length) {
                marks = new byte[heapCount];
            }
            Arrays.fill(marks, (byte) CALM);
            heaps = heapCount;
            leastCount = 0;
            known = true;
        }

        /** Whether a heap quarrels since it does with a slip left out. */
        boolean markByPart(int heap) {
            if (heap < 0 || heap >= heaps) {
                return false;
            }
            for (int i = 0; i < MOST_SLIPS; i++) {
                int bit = 1 << i;
                if ((heap & bit) != 0 && marks[heap & ~bit] != CALM) {
                    marks[heap] = MORE;
                    return true;
                }
            }
            return false;
        }

        void mark(int heap, boolean fits) {
            if (!fits && heap >= 0 && heap < heaps) {
                marks[heap] = LEAST;
                leastCount++;
            }
        }

        int leastAt(int i) {
            if (i < 0 || i >= leastCount) {
                return NONE;
            }
            int passed = 0;
            for (int heap = 0; heap < heaps; heap++) {
                if (marks[heap] == LEAST) {
                    if (passed == i) {
                        return heap;
                    }
                    passed++;
                }
            }
            return NONE;
        }

        void findLeftOut() {
            leftOut.clear();
            for (int size = 0; size <= MOST_SLIPS && leftOut.ways == 0; size++) {
                for (int out = 0; out < heaps; out++) {
                    if (Integer.bitCount(out) == size && marks[heaps - 1 - out] == CALM) {
                        leftOut.note(size, out);
                    }
                }
            }
        }
    }

    /** Two simple sentences with a middle, and what they conclude. */
    private static final class Syllogism {
        static final int FIGURES = 4;
        // The kinds of any two sentences with a middle will do to learn what such two conclude.
        static final int SUBJECT = 0;
        static final int MIDDLE = 1;
        static final int PREDICATE = 2;

        int majorMood;
        int minorMood;
        int figure = 1;
        int middle;
        int subject;
        int predicate;
        final byte[] conclusions = new byte[MOODS * MOODS * FIGURES];
        boolean isLearned;
        boolean learnedTold;
        final Theory premises = new Theory();
        final Sentence claim = new Sentence(new byte[0]);

        /** Whether two simple sentences, told by their numbers, have a middle. */
        boolean join(int major, int minor) {
            if (!isSimple(major) || !isSimple(minor)) {
                return false;
            }
            int leading = subjectOf(minor);
            int closing = predicateOf(minor);
            int one = subjectOf(major);
            int other = predicateOf(major);
            boolean isOneShared = one == leading || one == closing;
            boolean isOtherShared = other == leading || other == closing;
            if (isOneShared == isOtherShared) {
                return false;
            }
            majorMood = moodOf(major);
            minorMood = moodOf(minor);
            middle = isOneShared ? one : other;
            predicate = isOneShared ? other : one;
            subject = middle == closing ? leading : closing;
            if (middle == closing) {
                figure = isOneShared ? 1 : 2;
            } else {
                figure = isOneShared ? 3 : 4;
            }
            return true;
        }

        /** What is concluded hangs on moods, figure and existence alone, so it is learned once. */
        void learn(boolean told) {
            if (isLearned && learnedTold == told) {
                return;
            }
            for (int at = 0; at < conclusions.length; at++) {
                conclusions[at] = (byte) firstMood(at >> 4 & 3, at >> 2 & 3, (at & 3) + 1, told);
            }
            isLearned = true;
            learnedTold = told;
        }

        /** The mood that the two conclude, by what was learned. */
        int conclude() {
            int at = (majorMood * MOODS + minorMood) * FIGURES + figure - 1;
            return at >= 0 && at < conclusions.length ? conclusions[at] : NONE;
        }

        private int firstMood(int ofMajor, int ofMinor, int inFigure, boolean told) {
            boolean leadsMajor = leadsMajor(inFigure);
            boolean leadsMinor = leadsMinor(inFigure);
            premises.clear();
            claim.setSimple(ofMajor, leadsMajor ? MIDDLE : PREDICATE, leadsMajor ? PREDICATE : MIDDLE);
            premises.grantClaim(claim, told);
            claim.setSimple(ofMinor, leadsMinor ? MIDDLE : SUBJECT, leadsMinor ? SUBJECT : MIDDLE);
            premises.grantClaim(claim, told);
            for (int mood = 0; mood < MOODS; mood++) {
                claim.setSimple(mood, SUBJECT, PREDICATE);
                if (!premises.canFail(claim, told)) {
                    return mood;
                }
            }
            return NONE;
        }

        /** Whether the middle is the subject of the major. */
        private static boolean leadsMajor(int figure) {
            return figure == 1 || figure == 3;
        }

        /** Whether the middle is the subject of the minor. */
        private static boolean leadsMinor(int figure) {
            return figure == 3 || figure == 4;
        }

        /** What the rules find wrong with a mood concluded. */
        int judge(int mood, boolean told) {
            boolean leadsMajor = leadsMajor(figure);
            boolean leadsMinor = leadsMinor(figure);
            boolean isEitherNegative = isNegative(majorMood) || isNegative(minorMood);
            if (isNegative(majorMood) && isNegative(minorMood)) {
                return 1;
            }
            if (!isDistributed(majorMood, leadsMajor) && !isDistributed(minorMood, leadsMinor)) {
                return 2;
            }
            if (isDistributed(mood, false) && !isDistributed(majorMood, !leadsMajor)) {
                return 3;
            }
            if (isDistributed(mood, true) && !isDistributed(minorMood, !leadsMinor)) {
                return 4;
            }
            if (!isNegative(mood) && isEitherNegative) {
                return 5;
            }
            if (isNegative(mood) && !isEitherNegative) {
                return 6;
            }
            boolean isWeakened = isUniversal(majorMood) && isUniversal(minorMood) && !isUniversal(mood);
            return isWeakened && !told ? 7 : 0;
        }

        private static boolean isDistributed(int mood, boolean asSubject) {
            return asSubject ? isUniversal(mood) : isNegative(mood);
        }
    }

    /** The simple sentences that are derived, round by round. */
    private static final class Derivation {
        boolean known;
        final int[] rounds = new int[NUMBERS];
        final int[] majors = new int[NUMBERS];
        final int[] minors = new int[NUMBERS];
        final int[] ahead = new int[NUMBERS];
        int total;
        int lastRound;

        void start() {
            Arrays.fill(rounds, NONE);
            total = 0;
            lastRound = 0;
            known = true;
        }

        void addGiven(int number) {
            if (isSimple(number) && rounds[number] == NONE) {
                rounds[number] = 0;
                total++;
            }
        }

        void run(Syllogism syllogism) {
            int before = 0;
            for (int round = 1; round <= NUMBERS && total > before; round++) {
                before = total;
                deriveRound(round, syllogism);
                if (total > before) {
                    lastRound = round;
                }
            }
        }

        private void deriveRound(int round, Syllogism syllogism) {
            int count = listAhead();
            for (int i = 0; i < count; i++) {
                for (int j = 0; j < count; j++) {
                    int major = ahead[i];
                    int minor = ahead[j];
                    // Two that stood a round earlier have concluded what they can.
                    boolean isNew = rounds[major] == round - 1 || rounds[minor] == round - 1;
                    if (isNew && syllogism.join(major, minor)) {
                        addConclusion(round, syllogism, major, minor);
                    }
                }
            }
        }

        private void addConclusion(int round, Syllogism syllogism, int major, int minor) {
            int mood = syllogism.conclude();
            if (mood == NONE) {
                return;
            }
            int number = numberOf(mood, syllogism.subject, syllogism.predicate);
            if (isSimple(number) && rounds[number] == NONE) {
                rounds[number] = round;
                majors[number] = major;
                minors[number] = minor;
                total++;
            }
        }

        private int listAhead() {
            int count = 0;
            for (int number = 0; number < NUMBERS; number++) {
                if (rounds[number] != NONE) {
                    ahead[count] = number;
                    count++;
                }
            }
            return count;
        }
    }

    /** Reads the tape to a sentence; its terms become a tree of kinds, "or" and "who are". */
    private static final class Reader {
        static final int ALL = 0;
        static final int NO = 1;
        static final int SOME = 2;
        static final int ONLY = 3;
        static final int NONE_BUT = 4;
        static final int THERE_ARE = 5;
        static final int NAME_IS = 6;
        static final int MOST_KINDS = 24;
        static final int MOST_BRACKETS = 8;

        final byte[] tape = new byte[MOST_BYTES];
        int size;
        int faultPlace = NONE;
        // The token that is looked at: its first byte and the one behind it.
        private int from;
        private int stop;
        private int form;
        private int bearer;
        // Whether the sentence has a "not" or a "no" of its own.
        private boolean isTurned;
        private int first;
        private int second;
        private int kindCount;
        private final Tree tree = new Tree();
        private final Writer writer = new Writer();

        void append(int number) {
            for (int shift = 24; shift >= 0; shift -= 8) {
                if (size < MOST_BYTES) {
                    tape[size] = (byte) (number >> shift);
                    size++;
                }
            }
        }

        /** The sentence on the tape, which is empty then; null if there is a fault. */
        Sentence read() {
            tree.clear();
            kindCount = 0;
            bearer = NONE;
            isTurned = false;
            first = NONE;
            second = NONE;
            stop = 0;
            step();
            boolean isRead = parse() && from >= size;
            faultPlace = isRead ? NONE : from;
            size = 0;
            if (!isRead) {
                return null;
            }
            tree.findSets();
            Sentence sentence = new Sentence(writeDown());
            boolean isSwapped = form == ONLY || form == NONE_BUT;
            int subject = isSwapped ? second : first;
            int predicate = isSwapped ? first : second;
            tellSimple(sentence, tree.kindAt(subject), tree.kindAt(predicate));
            tellSet(sentence, subject, predicate);
            return sentence;
        }

        private void tellSimple(Sentence sentence, int subject, int predicate) {
            if (areTwoKinds(subject, predicate)) {
                sentence.subjectKind = subject;
                sentence.predicateKind = predicate;
                if (form == SOME) {
                    sentence.mood = isTurned ? MOOD_O : MOOD_I;
                } else {
                    sentence.mood = form == NO ? MOOD_E : MOOD_A;
                }
            }
        }

        private void tellSet(Sentence sentence, int subject, int predicate) {
            sentence.bearer = bearer;
            if (form == NAME_IS) {
                sentence.says = NAMED;
            } else {
                sentence.says = form == SOME || form == THERE_ARE && !isTurned ? THERE : BARS;
            }
            sentence.hasSubject = form != NAME_IS && form != THERE_ARE && form != SOME;
            for (int w = 0; w < WORDS; w++) {
                long own = tree.setWord(subject, w);
                long other = tree.setWord(predicate, w);
                sentence.subject[w] = own;
                sentence.set[w] = meant(own, other);
            }
        }

        private long meant(long own, long other) {
            switch (form) {
                case NAME_IS:
                    return isTurned ? ~own : own;
                case THERE_ARE:
                    return own;
                case NO:
                    return own & other;
                case SOME:
                    return own & (isTurned ? ~other : other);
                default:
                    return own & ~other;
            }
        }

        private boolean parse() {
            if (isSign('w', 'z')) {
                bearer = tape[from] - 'w';
                form = NAME_IS;
                step();
                if (!pass("is")) {
                    return false;
                }
                isTurned = pass("not");
                first = term(0);
                return first >= 0;
            }
            if (pass("there")) {
                form = THERE_ARE;
                if (!pass("are")) {
                    return false;
                }
                isTurned = pass("no");
                first = term(0);
                return first >= 0;
            }
            form = formHere();
            if (form == NONE) {
                return false;
            }
            step();
            if (form == NONE_BUT && !pass("but")) {
                return false;
            }
            first = term(0);
            if (first < 0 || !pass("are")) {
                return false;
            }
            isTurned = form == SOME && pass("not");
            second = term(0);
            return second >= 0;
        }

        private int formHere() {
            if (isAt("all")) {
                return ALL;
            }
            if (isAt("no")) {
                return NO;
            }
            if (isAt("some")) {
                return SOME;
            }
            if (isAt("only")) {
                return ONLY;
            }
            return isAt("none") ? NONE_BUT : NONE;
        }

        private int term(int depth) {
            int node = both(depth);
            for (int i = 0; i < MOST_KINDS && node >= 0 && pass("or"); i++) {
                node = tree.join(Tree.OR, node, both(depth));
            }
            return node;
        }

        private int both(int depth) {
            int node = plain(depth);
            for (int i = 0; i < MOST_KINDS && node >= 0 && pass("who"); i++) {
                node = pass("are") ? tree.join(Tree.WHO, node, plain(depth)) : NONE;
            }
            return node;
        }

        /** A plain term; its rows of "not" are counted, so that they take no depth. */
        private int plain(int depth) {
            int nots = 0;
            while (nots < MOST_BYTES && pass("not")) {
                nots++;
            }
            int node = NONE;
            if (isSign('a', 'h')) {
                if (kindCount < MOST_KINDS) {
                    kindCount++;
                    node = tree.make(tape[from] - 'a', NONE, NONE);
                    step();
                }
            } else if (depth < MOST_BRACKETS && pass("(")) {
                node = term(depth + 1);
                // A fault inside stays where it is, even if it is at a closing bracket.
                if (node >= 0 && !pass(")")) {
                    node = NONE;
                }
            }
            tree.negate(node, nots);
            return node;
        }

        private boolean pass(String word) {
            if (!isAt(word)) {
                return false;
            }
            step();
            return true;
        }

        private boolean isAt(String word) {
            int length = word.length();
            if (stop - from != length) {
                return false;
            }
            for (int i = 0; i < length; i++) {
                if (tape[from + i] != word.charAt(i)) {
                    return false;
                }
            }
            return true;
        }

        private boolean isSign(char low, char high) {
            return stop - from == 1 && tape[from] >= low && tape[from] <= high;
        }

        /** To the next token; at the end it is empty and begins at the text's length. */
        private void step() {
            from = stop;
            while (from < size && tape[from] == ' ') {
                from++;
            }
            stop = from;
            while (stop < size && tape[stop] >= 'a' && tape[stop] <= 'z') {
                stop++;
            }
            if (stop == from && stop < size) {
                stop++;
            }
        }

        private byte[] writeDown() {
            writer.clear();
            if (form == NAME_IS) {
                writer.putSign((char) ('w' + bearer));
                writer.putWord(isTurned ? "is not" : "is");
                writer.putTerm(tree, first, !isTurned);
            } else if (form == THERE_ARE) {
                writer.putWord(isTurned ? "there are no" : "there are");
                writer.putTerm(tree, first, false);
            } else {
                writer.putWord(leadingWords());
                writer.putTerm(tree, first, false);
                writer.putWord(isTurned ? "are not" : "are");
                writer.putTerm(tree, second, form == SOME && !isTurned);
            }
            return writer.copy();
        }

        private String leadingWords() {
            switch (form) {
                case ALL:
                    return "all";
                case NO:
                    return "no";
                case SOME:
                    return "some";
                case ONLY:
                    return "only";
                default:
                    return "none but";
            }
        }
    }

    /** Terms as nodes: a kind or two joined nodes, with a row of "not" ahead of it. */
    private static final class Tree {
        static final int OR = 8;
        static final int WHO = 9;
        // 24 kinds are joined 23 times at most.
        static final int MOST_NODES = 48;

        final int[] sorts = new int[MOST_NODES];
        final int[] lefts = new int[MOST_NODES];
        final int[] rights = new int[MOST_NODES];
        final int[] nots = new int[MOST_NODES];
        final long[] sets = new long[MOST_NODES * WORDS];
        int count;

        boolean hasNode(int node) {
            return node >= 0 && node < count;
        }

        void clear() {
            count = 0;
        }

        int join(int sort, int left, int right) {
            return hasNode(left) && hasNode(right) ? make(sort, left, right) : NONE;
        }

        int make(int sort, int left, int right) {
            if (count >= MOST_NODES) {
                return NONE;
            }
            int node = count;
            sorts[node] = sort;
            lefts[node] = left;
            rights[node] = right;
            nots[node] = 0;
            count++;
            return node;
        }

        void negate(int node, int times) {
            if (hasNode(node)) {
                nots[node] += times;
            }
        }

        /** The kind that a node is alone; none if it is more than that. */
        int kindAt(int node) {
            return hasNode(node) && nots[node] == 0 && sorts[node] < KINDS ? sorts[node] : NONE;
        }

        /** Parts stand ahead of what they are parts of, so one pass is enough. */
        void findSets() {
            for (int node = 0; node < count; node++) {
                for (int w = 0; w < WORDS; w++) {
                    long word;
                    if (sorts[node] == OR) {
                        word = setWord(lefts[node], w) | setWord(rights[node], w);
                    } else if (sorts[node] == WHO) {
                        word = setWord(lefts[node], w) & setWord(rights[node], w);
                    } else {
                        word = kindWord(sorts[node], w);
                    }
                    sets[node * WORDS + w] = nots[node] % 2 == 0 ? word : ~word;
                }
            }
        }

        long setWord(int node, int word) {
            return hasNode(node) && word >= 0 && word < WORDS ? sets[node * WORDS + word] : 0L;
        }

        boolean beginsWithNot(int node) {
            int at = node;
            for (int i = 0; i < MOST_NODES && hasNode(at); i++) {
                if (nots[at] > 0) {
                    return true;
                }
                int left = lefts[at];
                boolean opensBracket = sorts[at] == WHO && hasNode(left) && sorts[left] == OR && nots[left] == 0;
                if (opensBracket) {
                    return false;
                }
                at = left;
            }
            return false;
        }
    }

    /** Puts words and signs down with the blanks and brackets that must be. */
    private static final class Writer {
        // Brackets that stand free of words make a text longer than its tape by 48 signs at most.
        static final int MOST_SIGNS = 512;

        final byte[] signs = new byte[MOST_SIGNS];
        int length;

        void clear() {
            length = 0;
        }

        byte[] copy() {
            return Arrays.copyOf(signs, length);
        }

        void putSign(char sign) {
            if (length < MOST_SIGNS) {
                signs[length] = (byte) sign;
                length++;
            }
        }

        private void putBlank() {
            if (length > 0 && length <= MOST_SIGNS && signs[length - 1] != '(') {
                putSign(' ');
            }
        }

        void putWord(String word) {
            putBlank();
            for (int i = 0; i < word.length(); i++) {
                putSign(word.charAt(i));
            }
        }

        /** Ahead of a term a "not" could be taken as the sentence's own: brackets keep it off. */
        void putTerm(Tree tree, int node, boolean keepsNotOff) {
            boolean wraps = keepsNotOff && tree.beginsWithNot(node);
            if (wraps) {
                putWord("(");
            }
            putNode(tree, node, false, false, 0);
            if (wraps) {
                putSign(')');
            }
        }

        private void putNode(Tree tree, int node, boolean orWraps, boolean whoWraps, int depth) {
            if (!tree.hasNode(node) || depth > Tree.MOST_NODES) {
                return;
            }
            int nots = tree.nots[node];
            for (int i = 0; i < nots; i++) {
                putWord("not");
            }
            int sort = tree.sorts[node];
            if (sort < KINDS) {
                putBlank();
                putSign((char) ('a' + sort));
                return;
            }
            boolean isOr = sort == Tree.OR;
            boolean wraps = nots > 0 || (isOr ? orWraps : whoWraps);
            if (wraps) {
                putWord("(");
            }
            putNode(tree, tree.lefts[node], !isOr, false, depth + 1);
            putWord(isOr ? "or" : "who are");
            putNode(tree, tree.rights[node], true, !isOr, depth + 1);
            if (wraps) {
                putSign(')');
            }
        }
    }
}
