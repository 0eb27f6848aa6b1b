import java.util.ArrayList;

/** A data room: who may ask what about its files, and what follows from the answers. See ../shared/DOC.md. */
public final class Dataroom {
    public static final int NONE = -1;
    public static final int NOTHING = 0, ASK = 1, READ = 2;
    public static final int NO_RIGHT = -1, SEALED = -2, TELLS = -3, DEAR = -4;

    private static final int BITS = 8;
    private static final int MOST_FILES = 16;
    private static final int MOST_PARTIES = 6;
    private static final int MOST_ANSWERS = 150;
    private static final int MOST_NUMBER = 255;
    private static final int MOST_BUDGET = 128;
    private static final int MOST_HOURS = 500;
    private static final int LAST_HOUR = 5000;
    private static final int NOT_REFUSED = 0;
    private static final int COUNT_OF_STANDING = 5;

    private final ArrayList<Card> allFiles = new ArrayList<>();
    private final ArrayList<Party> allParties = new ArrayList<>();
    private final ArrayList<Answer> allAnswers = new ArrayList<>();
    private int now;

    // Made once and used again by every call: what a run makes is counted.
    private final Knowledge shared = new Knowledge();
    private final Marks marks = new Marks();

    public Dataroom() {
    }

    // ---- files, parties, rights

    public int file(int number) throws IllegalArgumentException, IllegalStateException {
        requireRange(number, 0, MOST_NUMBER);
        if (allFiles.size() >= MOST_FILES) {
            throw new IllegalStateException("there are 16 files");
        }
        allFiles.add(new Card(number));
        return allFiles.size() - 1;
    }

    public int change(int file, int number) throws IndexOutOfBoundsException, IllegalArgumentException {
        Card card = fileAt(file);
        requireRange(number, 0, MOST_NUMBER);
        card.number = number;
        int recalled = 0;
        for (int p = 0; p < allParties.size(); p++) {
            recalled += recall(allParties.get(p), file);
        }
        return recalled;
    }

    public int party(int budget) throws IllegalArgumentException, IllegalStateException {
        requireRange(budget, 0, MOST_BUDGET);
        if (allParties.size() >= MOST_PARTIES) {
            throw new IllegalStateException("there are 6 parties");
        }
        int place = allParties.size();
        allParties.add(new Party(place, budget));
        return place;
    }

    public int budget(int party, int budget) throws IndexOutOfBoundsException, IllegalArgumentException {
        Party whose = partyAt(party);
        requireRange(budget, 0, MOST_BUDGET);
        int before = whose.budget;
        whose.budget = budget;
        return before;
    }

    public void right(int party, int file, int right, int from, int to)
            throws IndexOutOfBoundsException, IllegalArgumentException {
        Party whose = partyAt(party);
        requireFile(file);
        requireRange(right, ASK, READ);
        requireRange(from, 0, LAST_HOUR);
        requireRange(to, from, LAST_HOUR);
        whose.setRight(file, new Right(right, from, to));
    }

    public int takeBack(int party, int file) throws IndexOutOfBoundsException {
        Party whose = partyAt(party);
        requireFile(file);
        if (whose.rightFor(file) == null) {
            return 0;
        }
        whose.setRight(file, null);
        return recall(whose, file);
    }

    public void seal(int file, int till) throws IndexOutOfBoundsException, IllegalArgumentException {
        Card card = fileAt(file);
        requireRange(till, 0, LAST_HOUR);
        card.sealedTill = till;
    }

    public int pass(int hours) throws IllegalArgumentException, IllegalStateException {
        requireRange(hours, 1, MOST_HOURS);
        if (now + hours > LAST_HOUR) {
            throw new IllegalStateException("now would be above 5000");
        }
        now += hours;
        return now;
    }

    // ---- questions

    public int ask(int party, int files, int bit)
            throws IndexOutOfBoundsException, IllegalArgumentException, IllegalStateException {
        Party asker = partyAt(party);
        requireQuestion(files, bit);
        if (allAnswers.size() >= MOST_ANSWERS) {
            throw new IllegalStateException("there are 150 answers");
        }
        int refusal = refusalOf(asker, files, bit);
        asker.countQuestion(refusal);
        if (refusal != NOT_REFUSED) {
            return refusal;
        }
        int sum = sumOf(files, bit);
        allAnswers.add(new Answer(asker.place, files, bit, sum, now));
        asker.learn(files, bit);
        return sum;
    }

    public int cost(int party, int files, int bit) throws IndexOutOfBoundsException, IllegalArgumentException {
        Party asker = partyAt(party);
        requireQuestion(files, bit);
        return asker.costOf(files, bit);
    }

    // ---- what is asked besides

    public int answer(int answer, int what) throws IndexOutOfBoundsException, IllegalArgumentException {
        if (answer < 0 || answer >= allAnswers.size()) {
            throw new IndexOutOfBoundsException("no such answer");
        }
        requireRange(what, 0, 5);
        return allAnswers.get(answer).tell(what);
    }

    public int spent(int party) throws IndexOutOfBoundsException {
        return partyAt(party).learnedInAll();
    }

    public int spentAnew(int party) throws IndexOutOfBoundsException {
        Party whose = partyAt(party);
        int sum = 0;
        for (int bit = 0; bit < BITS; bit++) {
            sum += generatorsOf(countKnownSets(whose, bit));
        }
        return sum;
    }

    public int finds(int party, int file) throws IndexOutOfBoundsException {
        Party whose = partyAt(party);
        requireFile(file);
        int found = 0;
        for (int bit = 0; bit < whose.known.length; bit++) {
            if (whose.known[bit].knows(1 << file)) {
                found |= 1 << bit;
            }
        }
        return found;
    }

    public int together(int parties, int file) throws IndexOutOfBoundsException, IllegalArgumentException {
        requireFile(file);
        requireRange(parties, 0, (1 << allParties.size()) - 1);
        int found = 0;
        for (int bit = 0; bit < BITS; bit++) {
            shareKnowledge(parties, bit);
            if (shared.knows(1 << file)) {
                found |= 1 << bit;
            }
        }
        return found;
    }

    public int rightTo(int party, int file) throws IndexOutOfBoundsException {
        Party whose = partyAt(party);
        requireFile(file);
        return whose.rightIn(now, file);
    }

    public boolean isSealed(int file) throws IndexOutOfBoundsException {
        return fileAt(file).isClosedIn(now);
    }

    public int count(int party, int what) throws IndexOutOfBoundsException, IllegalArgumentException {
        Party whose = partyAt(party);
        requireRange(what, 0, 5);
        return what == COUNT_OF_STANDING ? countStanding(whose) : whose.questions(what);
    }

    // ---- what the calls ask for

    private Party partyAt(int party) {
        if (party < 0 || party >= allParties.size()) {
            throw new IndexOutOfBoundsException("no such party");
        }
        return allParties.get(party);
    }

    private Card fileAt(int file) {
        requireFile(file);
        return allFiles.get(file);
    }

    private void requireFile(int file) {
        if (file < 0 || file >= allFiles.size()) {
            throw new IndexOutOfBoundsException("no such file");
        }
    }

    private static void requireRange(int value, int least, int most) {
        if (value < least || value > most) {
            throw new IllegalArgumentException("out of range");
        }
    }

    private void requireQuestion(int files, int bit) {
        requireRange(files, 1, (1 << allFiles.size()) - 1);
        requireRange(bit, NONE, BITS - 1);
    }

    private static boolean holds(int set, int place) {
        return (set >> place & 1) != 0;
    }

    private static boolean covers(int askedBit, int bit) {
        return askedBit == NONE || askedBit == bit;
    }

    // ---- how a question fares

    private int refusalOf(Party asker, int files, int bit) {
        if (lacksRight(asker, files)) {
            return NO_RIGHT;
        }
        if (hasSealed(files)) {
            return SEALED;
        }
        if (asker.wouldFindUnread(files, bit, now)) {
            return TELLS;
        }
        if (asker.learnedInAll() + asker.costOf(files, bit) > asker.budget) {
            return DEAR;
        }
        return NOT_REFUSED;
    }

    private boolean lacksRight(Party asker, int files) {
        for (int f = 0; f < allFiles.size(); f++) {
            if (holds(files, f) && asker.rightIn(now, f) == NOTHING) {
                return true;
            }
        }
        return false;
    }

    private boolean hasSealed(int files) {
        for (int f = 0; f < allFiles.size(); f++) {
            if (holds(files, f) && allFiles.get(f).isClosedIn(now)) {
                return true;
            }
        }
        return false;
    }

    private int sumOf(int files, int bit) {
        int sum = 0;
        for (int f = 0; f < allFiles.size(); f++) {
            if (holds(files, f)) {
                sum ^= allFiles.get(f).number;
            }
        }
        return bit == NONE ? sum : sum >> bit & 1;
    }

    // ---- recalling

    private int recall(Party whose, int file) {
        int recalled = 0;
        for (int a = 0; a < allAnswers.size(); a++) {
            Answer answer = allAnswers.get(a);
            if (answer.standsFor(whose) && holds(answer.files, file)) {
                answer.recalled = true;
                recalled++;
            }
        }
        if (recalled > 0) {
            learnAnew(whose);
        }
        return recalled;
    }

    // What other answers tell as well stays known, so nothing can be struck out singly.
    private void learnAnew(Party whose) {
        whose.forget();
        for (int a = 0; a < allAnswers.size(); a++) {
            Answer answer = allAnswers.get(a);
            if (answer.standsFor(whose)) {
                whose.learn(answer.files, answer.bit);
            }
        }
    }

    // ---- counting and sharing

    private int countStanding(Party whose) {
        int standing = 0;
        for (int a = 0; a < allAnswers.size(); a++) {
            if (allAnswers.get(a).standsFor(whose)) {
                standing++;
            }
        }
        return standing;
    }

    private int countKnownSets(Party whose, int bit) {
        marks.begin(allFiles.size());
        for (int a = 0; a < allAnswers.size(); a++) {
            Answer answer = allAnswers.get(a);
            if (answer.standsFor(whose) && covers(answer.bit, bit)) {
                marks.add(answer.files);
            }
        }
        return marks.sets();
    }

    // Each set of which the others come doubles how many are known, the empty set being there first.
    private static int generatorsOf(int knownSets) {
        int generators = 0;
        for (int left = knownSets; left > 1; left >>= 1) {
            generators++;
        }
        return generators;
    }

    private void shareKnowledge(int parties, int bit) {
        shared.forget();
        for (int p = 0; p < allParties.size(); p++) {
            Party one = allParties.get(p);
            if (holds(parties, p) && bit < one.known.length) {
                shared.learnFrom(one.known[bit]);
            }
        }
    }

    private static final class Card {
        private int number;
        private int sealedTill = NONE;

        Card(int number) {
            this.number = number;
        }

        boolean isClosedIn(int hour) {
            return hour <= sealedTill;
        }
    }

    private static final class Right {
        private final int kind;
        private final int from;
        private final int to;

        Right(int kind, int from, int to) {
            this.kind = kind;
            this.from = from;
            this.to = to;
        }

        int in(int hour) {
            return from <= hour && hour <= to ? kind : NOTHING;
        }
    }

    private static final class Answer {
        private final int party;
        private final int files;
        private final int bit;
        private final int given;
        private final int hour;
        private boolean recalled;

        Answer(int party, int files, int bit, int given, int hour) {
            this.party = party;
            this.files = files;
            this.bit = bit;
            this.given = given;
            this.hour = hour;
        }

        boolean standsFor(Party whose) {
            return !recalled && party == whose.place;
        }

        int tell(int what) {
            switch (what) {
                case 0:
                    return party;
                case 1:
                    return files;
                case 2:
                    return bit;
                case 3:
                    return given;
                case 4:
                    return recalled ? 1 : 0;
                default:
                    return hour;
            }
        }
    }

    private static final class Party {
        private final int place;
        private int budget;
        private final Right[] rights = new Right[MOST_FILES];
        private final Knowledge[] known = new Knowledge[BITS];
        // Questions by how they fared: the answered ones at 0, those refused by code c at -c.
        private final int[] fared = new int[1 - DEAR];

        Party(int place, int budget) {
            this.place = place;
            this.budget = budget;
            for (int bit = 0; bit < known.length; bit++) {
                known[bit] = new Knowledge();
            }
        }

        Right rightFor(int file) {
            return file >= 0 && file < rights.length ? rights[file] : null;
        }

        void setRight(int file, Right right) {
            if (file >= 0 && file < rights.length) {
                rights[file] = right;
            }
        }

        int rightIn(int hour, int file) {
            Right right = rightFor(file);
            return right == null ? NOTHING : right.in(hour);
        }

        void countQuestion(int refusal) {
            int at = -refusal;
            if (at >= 0 && at < fared.length) {
                fared[at]++;
            }
        }

        int questions(int at) {
            return at >= 0 && at < fared.length ? fared[at] : 0;
        }

        void learn(int files, int askedBit) {
            for (int bit = 0; bit < known.length; bit++) {
                if (covers(askedBit, bit)) {
                    known[bit].learn(files);
                }
            }
        }

        void forget() {
            for (int bit = 0; bit < known.length; bit++) {
                known[bit].forget();
            }
        }

        int learnedInAll() {
            int sum = 0;
            for (int bit = 0; bit < known.length; bit++) {
                sum += known[bit].learned;
            }
            return sum;
        }

        int costOf(int files, int askedBit) {
            int sum = 0;
            for (int bit = 0; bit < known.length; bit++) {
                if (covers(askedBit, bit) && !known[bit].knows(files)) {
                    sum++;
                }
            }
            return sum;
        }

        boolean wouldFindUnread(int files, int askedBit, int hour) {
            for (int file = 0; file < rights.length; file++) {
                if (rightIn(hour, file) != READ && wouldFind(file, files, askedBit)) {
                    return true;
                }
            }
            return false;
        }

        private boolean wouldFind(int file, int files, int askedBit) {
            for (int bit = 0; bit < known.length; bit++) {
                if (covers(askedBit, bit) && known[bit].wouldReach(1 << file, files)) {
                    return true;
                }
            }
            return false;
        }
    }

    /** What is known of one bit, held as the fewest sets of which all other known sets come. */
    private static final class Knowledge {
        // At f stands the set whose highest file is f, or the empty set: no two have the same highest file,
        // so one way down tells whether a set is known.
        private final int[] rows = new int[MOST_FILES];
        private int learned;

        void forget() {
            for (int top = 0; top < rows.length; top++) {
                rows[top] = 0;
            }
            learned = 0;
        }

        void learn(int set) {
            int rest = set;
            for (int top = rows.length - 1; top >= 0; top--) {
                if (!holds(rest, top)) {
                    continue;
                }
                if (rows[top] == 0) {
                    rows[top] = rest;
                    learned++;
                    return;
                }
                rest ^= rows[top];
            }
        }

        void learnFrom(Knowledge other) {
            for (int top = 0; top < other.rows.length; top++) {
                learn(other.rows[top]);
            }
        }

        boolean knows(int set) {
            int rest = set;
            for (int top = rows.length - 1; top >= 0; top--) {
                if (holds(rest, top)) {
                    rest ^= rows[top];
                }
            }
            return rest == 0;
        }

        // A set that is not known yet comes of the new one just if what is left of both is known already.
        boolean wouldReach(int set, int newSet) {
            return knows(set ^ newSet) && !knows(set);
        }
    }

    /** All known sets of one bit, each with a mark, so that they can be counted without trusting Knowledge. */
    private static final class Marks {
        private static final int WORD_SHIFT = 6;
        // At j the places of a word whose number lacks the bit j.
        private static final long[] LACKING = {
            0x5555555555555555L, 0x3333333333333333L, 0x0f0f0f0f0f0f0f0fL,
            0x00ff00ff00ff00ffL, 0x0000ffff0000ffffL, 0x00000000ffffffffL};

        private final long[] words = new long[1 << (MOST_FILES - WORD_SHIFT)];
        private int used;

        void begin(int files) {
            used = Math.min(words.length, 1 << Math.max(0, files - WORD_SHIFT));
            for (int w = 0; w < used; w++) {
                words[w] = 0L;
            }
            words[0] = 1L;
        }

        // Sixty-four sets at a time: with 16 files each new set would else walk 65536 of them.
        void add(int set) {
            if (isMarked(set)) {
                return;
            }
            for (int w = 0; w < used; w++) {
                int other = w ^ set >>> WORD_SHIFT;
                if (words[w] != 0L && other < used) {
                    words[other] |= crossed(words[w], set);
                }
            }
        }

        int sets() {
            int sum = 0;
            for (int w = 0; w < used; w++) {
                sum += Long.bitCount(words[w]);
            }
            return sum;
        }

        private boolean isMarked(int set) {
            int w = set >>> WORD_SHIFT;
            return w < used && (words[w] >>> (set & 63) & 1L) != 0L;
        }

        // Moves the mark of each place p to the place that has what just one of p and the set has.
        private static long crossed(long word, int set) {
            long moved = word;
            for (int j = 0; j < LACKING.length; j++) {
                if (holds(set, j)) {
                    int wide = 1 << j;
                    moved = (moved & LACKING[j]) << wide | moved >>> wide & LACKING[j];
                }
            }
            return moved;
        }
    }
}
