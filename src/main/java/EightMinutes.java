/** Eight minutes with each: two sides of people who meet in rounds and write yes or no on slips. */
public final class EightMinutes {
    private static final int SIDE = 5;
    private static final int ALL = 10;
    private static final int LEFT = 0;
    private static final int RIGHT = 1;

    private static final int EARLY = 1;
    private static final int TIRED = 2;
    private static final int SHADED = 3;
    private static final int HOPING = 4;
    private static final int WORN = 5;
    private static final int GREATEST_LIKING = 9;
    private static final int FIRST_LIKING = 5;
    private static final int GREATEST_STEP = 4;
    private static final int GREATEST_SHIFT = 4;
    private static final int BY_THREE = 1;
    private static final int BY_ONE = 2;
    private static final int BY_RANKS = 3;
    private static final int GREATEST_LETTER = 255;
    private static final int GREATEST_IN_ROW = 31;
    private static final int ROW_ROOM = 10;
    private static final int NOBODY_IN_ROW = 9;
    private static final int GREATEST_LOTS = 20;

    private static final int NONE = -9;
    private static final int FELT_ALONE = 999;
    private static final int ALL_BITS_BUT_SIGN = 0x7fffffff;
    private static final int BAD_LETTER = -1000;
    private static final int BAD_STATEMENT = -2000;
    private static final int FELT_REFUSED = 1000000000;

    private static final int NOBODY = -1;
    private static final int OTHER = -2;
    private static final int STATE = -3;
    private static final int BELOW = -4;
    private static final int ROOM = -6;

    private final Told told = new Told();
    /** Where evenings, orders and likings are tried without being told. */
    private final Told mind = new Told();
    private final Told kept = new Told();
    private boolean isKept = false;
    private final Script script = new Script();
    private final Rounds rounds = new Rounds();
    private final Pairing pairing = new Pairing();
    private final Holding holding = new Holding();
    private final int[] slipRow = new int[ROW_ROOM];
    private int inRow = 0;
    private final int[] refusals = new int[7];

    public EightMinutes() {
    }

    public int letter(int c) {
        if (c < 0) {
            return refuse(BELOW);
        }
        if (c > GREATEST_LETTER || script.isFull()) {
            return refuse(ROOM);
        }
        return script.add(c);
    }

    public int evening() {
        int badLetter = script.firstBadLetter();
        if (badLetter != NONE) {
            script.forget();
            return BAD_LETTER - badLetter;
        }
        mind.become(told);
        int badStatement = script.carryOut(mind);
        int statements = script.statements();
        script.forget();
        if (badStatement != NONE) {
            return BAD_STATEMENT - badStatement;
        }
        told.become(mind);
        return statements;
    }

    public int person(int one, int what) {
        if (!told.isThere(one)) {
            return refuse(NOBODY);
        }
        switch (what) {
            case 0: return told.kinds[one];
            case 1: return told.bars[one];
            case 2:
                rounds.hold(told);
                return rounds.gaps(one);
            default: return refuse(OTHER);
        }
    }

    public int liking(int one, int other) {
        if (!told.areUnlike(one, other)) {
            return refuse(NOBODY);
        }
        return told.likes(one, other);
    }

    public int like(int one, int other, int v) {
        if (!told.areUnlike(one, other)) {
            return refuse(NOBODY);
        }
        if (v < 0) {
            return refuse(BELOW);
        }
        if (v > GREATEST_LIKING) {
            return refuse(ROOM);
        }
        int was = told.likes(one, other);
        told.setLiking(one, other, v);
        return was;
    }

    public int order(int step, int shift) {
        if (step < 1 || shift < 0) {
            return refuse(BELOW);
        }
        if (step > GREATEST_STEP || shift > GREATEST_SHIFT) {
            return refuse(ROOM);
        }
        int was = 10 * told.step + told.shift;
        told.step = step;
        told.shift = shift;
        return was;
    }

    public int law(int v) {
        if (!isLaw(v)) {
            return refuse(OTHER);
        }
        int was = told.law;
        told.law = v;
        return was;
    }

    public int meets(int one, int round) {
        if (!told.isThere(one) || !told.isRound(round)) {
            return refuse(NOBODY);
        }
        rounds.hold(told);
        return rounds.partners[one][round];
    }

    public int felt(int one, int round) {
        if (!told.isThere(one) || !told.isRound(round)) {
            // A FELT may be -1 too, so the refusal is told far above all of them.
            return FELT_REFUSED - refuse(NOBODY);
        }
        rounds.hold(told);
        return rounds.feelings[one][round];
    }

    public int yeses(int one, int what) {
        if (!told.isThere(one)) {
            return refuse(NOBODY);
        }
        rounds.hold(told);
        switch (what) {
            case 0: return rounds.slips[one];
            case 1: return rounds.slipsFor(one);
            default: return refuse(OTHER);
        }
    }

    public int pairs(int one) {
        if (one != -1 && !told.isThere(one)) {
            return refuse(NOBODY);
        }
        rounds.hold(told);
        pairing.settle(told, rounds, told.law);
        return one == -1 ? pairing.howMany() : pairing.pairBits[one];
    }

    public int glad(int law, int what) {
        if (!isLaw(law) || what < 0 || what > 1) {
            return refuse(OTHER);
        }
        rounds.hold(told);
        pairing.settle(told, rounds, law);
        return what == 0 ? pairing.howMany() : pairing.gladness(told);
    }

    public int shaded() {
        rounds.hold(told);
        return rounds.shadedRounds;
    }

    public int bestOrder() {
        mind.become(told);
        int best = NONE;
        int least = 0;
        for (int step = 1; step <= GREATEST_STEP; step++) {
            for (int shift = 0; shift <= GREATEST_SHIFT; shift++) {
                mind.step = step;
                mind.shift = shift;
                rounds.hold(mind);
                boolean isBetter = best == NONE || rounds.shadedRounds < least;
                if (isBetter && rounds.letAllMeetAll(mind)) {
                    least = rounds.shadedRounds;
                    best = 10 * step + shift;
                }
            }
        }
        return best;
    }

    public int ranks(int one) {
        return gotWhenAsking(LEFT, one);
    }

    public int asked(int one) {
        return gotWhenAsking(RIGHT, one);
    }

    public int firm() {
        return holding.firmWays(told);
    }

    public int row(int v) {
        if (v < 0) {
            return refuse(BELOW);
        }
        if (v > GREATEST_IN_ROW || inRow >= ROW_ROOM) {
            return refuse(ROOM);
        }
        slipRow[inRow] = v;
        inRow++;
        return inRow;
    }

    public int rather() {
        if (!holdAsTheRowTells()) {
            return refuse(STATE);
        }
        return holding.firstWhoWouldRather(told);
    }

    public int truly(int one, int other) {
        if (!told.areUnlike(one, other)) {
            return refuse(NOBODY);
        }
        rounds.hold(told);
        boolean says = rounds.saysYes(one, other);
        mind.become(told);
        int bits = 0;
        for (int v = 0; v <= GREATEST_LIKING; v++) {
            mind.setLiking(one, other, v);
            rounds.hold(mind);
            if (rounds.saysYes(one, other) == says) {
                bits |= 1 << v;
            }
        }
        return bits;
    }

    public int judge() {
        int length = clear();
        int left = told.people[LEFT];
        int people = told.howManyPeople();
        rounds.hold(told);
        for (int i = 0; i < length && i < people; i++) {
            int one = i < left ? i : SIDE + i - left;
            if (slipRow[i] != rounds.slips[one]) {
                return i;
            }
        }
        return length == people ? NONE : Math.min(length, people);
    }

    public int clear() {
        int had = inRow;
        inRow = 0;
        return had;
    }

    public int lots(int n, int z) {
        if (n < 1) {
            return refuse(BELOW);
        }
        if (n > GREATEST_LOTS) {
            return refuse(ROOM);
        }
        mind.become(told);
        int seed = z;
        int together = 0;
        for (int i = 0; i < n; i++) {
            seed = mind.drawLikings(seed);
            rounds.hold(mind);
            pairing.settle(mind, rounds, mind.law);
            together += pairing.howMany();
        }
        return together;
    }

    public int image() {
        kept.become(told);
        isKept = true;
        return told.howManyPeople();
    }

    public int on() {
        if (!isKept) {
            return refuse(STATE);
        }
        told.become(kept);
        return told.howManyPeople();
    }

    public int count(int what) {
        switch (what) {
            case 0: return told.people[LEFT];
            case 1: return told.people[RIGHT];
            case 2: return told.rounds();
            case 3: return told.step;
            case 4: return told.shift;
            case 5: return told.law;
            case 6:
                rounds.hold(told);
                return rounds.allGaps(told);
            case 7: return inRow;
            case 8: return script.length;
            default: return what >= 11 && what <= 16 ? refusals[what - 10] : NONE;
        }
    }

    /** Counts a refusal (-1 .. -6) and hands it back as the answer. */
    private int refuse(int refusal) {
        if (refusal < 0 && refusal > -refusals.length) {
            refusals[-refusal]++;
        }
        return refusal;
    }

    private int gotWhenAsking(int askingSide, int one) {
        if (!told.isThere(one)) {
            return refuse(NOBODY);
        }
        pairing.askInTurn(told, askingSide);
        return pairing.got[one];
    }

    /** Puts the row into holding; false if it is not one number for each left one, no right one twice. */
    private boolean holdAsTheRowTells() {
        if (inRow != told.people[LEFT]) {
            return false;
        }
        holding.letAllGo();
        for (int left = 0; left < inRow; left++) {
            int number = slipRow[left];
            if (number == NOBODY_IN_ROW) {
                continue;
            }
            if (number >= told.people[RIGHT] || !holding.give(left, SIDE + number)) {
                return false;
            }
        }
        return true;
    }

    private static boolean isLaw(int v) {
        return v >= 0 && v <= BY_RANKS;
    }

    private static int sideOf(int one) {
        return one < SIDE ? LEFT : RIGHT;
    }

    /** The one's bit among the bits of his side. */
    private static int bitOf(int one) {
        return 1 << (one % SIDE);
    }

    /** The first number (0 or 5) of the other side than the one's. */
    private static int otherStart(int one) {
        return one < SIDE ? SIDE : 0;
    }

    /** All that is told and that an image keeps. */
    private static final class Told {
        final int[] people = new int[2];
        final int[] kinds = new int[ALL];
        final int[] bars = new int[ALL];
        final int[] likings = new int[ALL * ALL];
        int step = 1;
        int shift = 0;
        int law = 0;

        void become(Told model) {
            System.arraycopy(model.people, 0, people, 0, people.length);
            System.arraycopy(model.kinds, 0, kinds, 0, kinds.length);
            System.arraycopy(model.bars, 0, bars, 0, bars.length);
            System.arraycopy(model.likings, 0, likings, 0, likings.length);
            step = model.step;
            shift = model.shift;
            law = model.law;
        }

        boolean isThere(int one) {
            return one >= 0 && one < ALL && one % SIDE < people[sideOf(one)];
        }

        boolean areUnlike(int one, int other) {
            return isThere(one) && isThere(other) && sideOf(one) != sideOf(other);
        }

        int howManyPeople() {
            return people[LEFT] + people[RIGHT];
        }

        /** How many there are on the other side than the one's. */
        int howManyFacing(int one) {
            return people[RIGHT - sideOf(one)];
        }

        int rounds() {
            return Math.max(people[LEFT], people[RIGHT]);
        }

        boolean isRound(int round) {
            return round >= 0 && round < rounds();
        }

        int likes(int one, int other) {
            return likings[one * ALL + other];
        }

        void setLiking(int one, int other, int v) {
            likings[one * ALL + other] = v;
        }

        /** False, with nothing changed, if the side has no room for more. */
        boolean addPerson(int side, int kind, int bar) {
            if (people[side] >= SIDE) {
                return false;
            }
            int one = side * SIDE + people[side];
            people[side]++;
            kinds[one] = kind;
            bars[one] = bar;
            for (int other = 0; other < ALL; other++) {
                setLiking(one, other, FIRST_LIKING);
                setLiking(other, one, FIRST_LIKING);
            }
            return true;
        }

        /** Draws all likings; answers what the seed has become. */
        int drawLikings(int seed) {
            int z = seed;
            for (int one = 0; one < ALL; one++) {
                if (!isThere(one)) {
                    continue;
                }
                for (int i = 0; i < howManyFacing(one); i++) {
                    z = z * 1664525 + 1013904223;
                    setLiking(one, otherStart(one) + i, (z & ALL_BITS_BUT_SIGN) / 256 % 10);
                }
            }
            return z;
        }
    }

    /** Who meets whom, what is felt and what is said in rounds as they were held last. */
    private static final class Rounds {
        /** Whom each one meets (0 .. 9) in each round; NONE. */
        final int[][] partners = new int[ALL][SIDE];
        /** What each one feels in each round; FELT_ALONE. */
        final int[][] feelings = new int[ALL][SIDE];
        /** To whom each one says yes: bits of the other side. */
        final int[] slips = new int[ALL];
        int shadedRounds = 0;
        private int howMany = 0;

        void hold(Told told) {
            howMany = told.rounds();
            shadedRounds = 0;
            for (int one = 0; one < ALL; one++) {
                boolean isThere = told.isThere(one);
                for (int round = 0; round < SIDE; round++) {
                    partners[one][round] = isThere ? partner(told, one, round) : NONE;
                }
                slips[one] = 0;
                for (int round = 0; round < SIDE; round++) {
                    feelings[one][round] = FELT_ALONE;
                    if (partners[one][round] != NONE) {
                        feelAndSay(told, one, round);
                    }
                }
            }
        }

        private int partner(Told told, int one, int round) {
            if (howMany < 1 || round >= howMany) {
                return NONE;
            }
            int along = told.shift + round * told.step;
            int number = sideOf(one) == LEFT ? one + along : one - SIDE - along;
            int other = otherStart(one) + Math.floorMod(number, howMany);
            return told.isThere(other) ? other : NONE;
        }

        private void feelAndSay(Told told, int one, int round) {
            int other = partners[one][round];
            int felt = feeling(told, one, other, round);
            feelings[one][round] = felt;
            if (felt >= told.bars[one]) {
                slips[one] |= bitOf(other);
            }
            if (felt != told.likes(one, other)) {
                shadedRounds++;
            }
        }

        private int feeling(Told told, int one, int other, int round) {
            int likes = told.likes(one, other);
            switch (told.kinds[one]) {
                case EARLY: return round == 0 ? likes - 2 : likes;
                case TIRED: return likes - round / 2;
                case SHADED: return isInShade(told, one, likes, round) ? likes - 3 : likes;
                case HOPING: return told.likes(other, one) >= 5 ? likes + 1 : likes - 1;
                case WORN: return likes - round / 2 - (wasAlone(one, round) ? 1 : 0);
                default: return likes;
            }
        }

        private boolean isInShade(Told told, int one, int likes, int round) {
            if (round < 1 || wasAlone(one, round)) {
                return false;
            }
            return told.likes(one, partners[one][round - 1]) > likes;
        }

        private boolean wasAlone(int one, int round) {
            return round > 0 && partners[one][round - 1] == NONE;
        }

        int gaps(int one) {
            int alone = 0;
            for (int round = 0; round < howMany; round++) {
                if (partners[one][round] == NONE) {
                    alone++;
                }
            }
            return alone;
        }

        int allGaps(Told told) {
            int alone = 0;
            for (int one = 0; one < ALL; one++) {
                if (told.isThere(one)) {
                    alone += gaps(one);
                }
            }
            return alone;
        }

        boolean saysYes(int one, int other) {
            return (slips[one] & bitOf(other)) != 0;
        }

        /** Who says yes to the one: bits of the other side. */
        int slipsFor(int one) {
            int bits = 0;
            for (int i = 0; i < SIDE; i++) {
                int other = otherStart(one) + i;
                if (saysYes(other, one)) {
                    bits |= bitOf(other);
                }
            }
            return bits;
        }

        boolean letAllMeetAll(Told told) {
            int everybody = (1 << told.people[RIGHT]) - 1;
            for (int left = 0; left < told.people[LEFT]; left++) {
                int met = 0;
                for (int round = 0; round < howMany; round++) {
                    int other = partners[left][round];
                    met |= other == NONE ? 0 : bitOf(other);
                }
                if (met != everybody) {
                    return false;
                }
            }
            return true;
        }
    }

    /** Letters as they come, and the statements that they make. */
    private static final class Script {
        /** Each kind's letter, in the order of their numbers. */
        private static final String KIND_LETTERS = "metshw";
        /** In a statement's form: a kind's letter; a digit. */
        private static final char KIND = 'K';
        private static final char DIGIT = 'D';
        private static final int ROOM_FOR_LETTERS = 96;

        private final int[] letters = new int[ROOM_FOR_LETTERS];
        int length = 0;

        boolean isFull() {
            return length >= ROOM_FOR_LETTERS;
        }

        int add(int c) {
            if (!isFull()) {
                letters[length] = c;
                length++;
            }
            return length;
        }

        void forget() {
            length = 0;
        }

        /** Where the text cannot go on, or lacks something; NONE if it is all statements. */
        int firstBadLetter() {
            if (length == 0) {
                return 0;
            }
            int place = 0;
            while (place < length) {
                String form = formBehind(letters[place]);
                if (form.isEmpty()) {
                    return place;
                }
                place++;
                for (int i = 0; i < form.length(); i++) {
                    if (place >= length || !fits(form.charAt(i), letters[place])) {
                        return place;
                    }
                    place++;
                }
            }
            return NONE;
        }

        /** How a statement goes on behind its first letter; empty if none begins so. */
        private static String formBehind(int first) {
            switch (first) {
                case 'l': return "KD;";
                case 'r': return "KD;";
                case 'k': return "DDD;";
                case 'o': return "DD;";
                case 'w': return "D;";
                default: return "";
            }
        }

        private static boolean fits(char part, int letter) {
            switch (part) {
                case KIND: return KIND_LETTERS.indexOf((char) letter) >= 0;
                case DIGIT: return letter >= '0' && letter <= '9';
                default: return letter == part;
            }
        }

        int statements() {
            int ends = 0;
            for (int i = 0; i < length; i++) {
                if (letters[i] == ';') {
                    ends++;
                }
            }
            return ends;
        }

        /** Carries out statements (no letter may be bad) until one cannot be: its place, or NONE. */
        int carryOut(Told told) {
            int start = 0;
            while (start < length) {
                if (!carryOutOne(told, start)) {
                    return start;
                }
                start += 1 + formBehind(letters[start]).length();
            }
            return NONE;
        }

        private boolean carryOutOne(Told told, int start) {
            switch (letters[start]) {
                case 'l': return told.addPerson(LEFT, kindAt(start + 1), digitAt(start + 2));
                case 'r': return told.addPerson(RIGHT, kindAt(start + 1), digitAt(start + 2));
                case 'k': return setLiking(told, start);
                case 'o': return setOrder(told, start);
                case 'w': return setLaw(told, start);
                default: return false;
            }
        }

        private boolean setLiking(Told told, int start) {
            int one = digitAt(start + 1);
            int other = digitAt(start + 2);
            if (!told.areUnlike(one, other)) {
                return false;
            }
            told.setLiking(one, other, digitAt(start + 3));
            return true;
        }

        private boolean setOrder(Told told, int start) {
            int step = digitAt(start + 1);
            int shift = digitAt(start + 2);
            if (step < 1 || step > GREATEST_STEP || shift > GREATEST_SHIFT) {
                return false;
            }
            told.step = step;
            told.shift = shift;
            return true;
        }

        private boolean setLaw(Told told, int start) {
            int number = digitAt(start + 1);
            if (!isLaw(number)) {
                return false;
            }
            told.law = number;
            return true;
        }

        private int kindAt(int place) {
            return place < length ? KIND_LETTERS.indexOf((char) letters[place]) : NONE;
        }

        private int digitAt(int place) {
            return place < length ? letters[place] - '0' : NONE;
        }
    }

    /** Pairs by a law, and whom all get if one side asks. Its rows are used again by each call. */
    private static final class Pairing {
        final int[] pairBits = new int[ALL];
        final int[] got = new int[ALL];
        private final int[] valid = new int[ALL];
        private final int[] unasked = new int[ALL];

        /** Finds all pairs by the law: pairBits then holds each one's. */
        void settle(Told told, Rounds rounds, int law) {
            if (law == BY_RANKS) {
                askInTurn(told, LEFT);
            }
            for (int one = 0; one < ALL; one++) {
                pairBits[one] = 0;
                valid[one] = validYeses(told, one, rounds.slips[one], law);
            }
            for (int left = 0; left < SIDE; left++) {
                for (int right = 0; right < SIDE; right++) {
                    int other = SIDE + right;
                    if ((valid[left] & bitOf(other)) != 0 && (valid[other] & bitOf(left)) != 0) {
                        pairBits[left] |= bitOf(other);
                        pairBits[other] |= bitOf(left);
                    }
                }
            }
        }

        /** Those yeses of one that the law lets count. */
        private int validYeses(Told told, int one, int yeses, int law) {
            switch (law) {
                case BY_THREE: return likedMost(told, one, yeses, 3);
                case BY_ONE: return likedMost(told, one, yeses, 1);
                case BY_RANKS: return got[one] == NONE ? 0 : yeses & bitOf(got[one]);
                default: return yeses;
            }
        }

        int howMany() {
            int pairs = 0;
            for (int left = 0; left < SIDE; left++) {
                pairs += Integer.bitCount(pairBits[left]);
            }
            return pairs;
        }

        int gladness(Told told) {
            int together = 0;
            for (int left = 0; left < SIDE; left++) {
                for (int right = SIDE; right < ALL; right++) {
                    if ((pairBits[left] & bitOf(right)) != 0) {
                        together += told.likes(left, right) + told.likes(right, left);
                    }
                }
            }
            return together;
        }

        /** Of the bits of the other side those that the one likes most, so many at most. */
        private static int likedMost(Told told, int one, int bits, int most) {
            int chosen = 0;
            for (int i = 0; i < most; i++) {
                int favourite = favourite(told, one, bits & ~chosen);
                if (favourite != NONE) {
                    chosen |= bitOf(favourite);
                }
            }
            return chosen;
        }

        /** Whom of the bits of the other side the one likes most (0 .. 9), or NONE. */
        private static int favourite(Told told, int one, int bits) {
            int best = NONE;
            for (int i = 0; i < SIDE; i++) {
                int other = otherStart(one) + i;
                boolean isAmong = (bits & bitOf(other)) != 0;
                if (isAmong && (best == NONE || told.likes(one, other) > told.likes(one, best))) {
                    best = other;
                }
            }
            return best;
        }

        /** Lets the side ask until nobody free has anybody left to ask: got then holds whom each gets. */
        void askInTurn(Told told, int askingSide) {
            for (int one = 0; one < ALL; one++) {
                got[one] = NONE;
                boolean mayAsk = told.isThere(one) && sideOf(one) == askingSide;
                unasked[one] = mayAsk ? (1 << told.howManyFacing(one)) - 1 : 0;
            }
            // Nobody asks the same one twice.
            int mostAsks = SIDE * SIDE;
            for (int asks = 0; asks < mostAsks; asks++) {
                int asker = firstWhoWillAsk();
                if (asker == NONE) {
                    return;
                }
                ask(told, asker);
            }
        }

        private int firstWhoWillAsk() {
            for (int one = 0; one < ALL; one++) {
                if (got[one] == NONE && unasked[one] != 0) {
                    return one;
                }
            }
            return NONE;
        }

        private void ask(Told told, int asker) {
            int other = favourite(told, asker, unasked[asker]);
            if (other == NONE) {
                return;
            }
            unasked[asker] &= ~bitOf(other);
            int holds = got[other];
            if (holds != NONE) {
                if (!isLikedBefore(told, other, asker, holds)) {
                    return;
                }
                got[holds] = NONE;
            }
            got[other] = asker;
            got[asker] = other;
        }

        private static boolean isLikedBefore(Told told, int one, int first, int second) {
            int likesFirst = told.likes(one, first);
            int likesSecond = told.likes(one, second);
            return likesFirst > likesSecond || (likesFirst == likesSecond && first < second);
        }
    }

    /** Who has whom, as it is tried or told; its row is used again by each call. */
    private static final class Holding {
        private final int[] has = new int[ALL];

        void letAllGo() {
            for (int one = 0; one < ALL; one++) {
                has[one] = NONE;
            }
        }

        /** False, with nothing changed, if somebody has the other. */
        boolean give(int one, int other) {
            if (has[other] != NONE) {
                return false;
            }
            has[one] = other;
            has[other] = one;
            return true;
        }

        /** In how many ways the lesser side can be held so that no two would rather leave. */
        int firmWays(Told told) {
            int lesserSide = told.people[LEFT] <= told.people[RIGHT] ? LEFT : RIGHT;
            int choices = told.people[RIGHT - lesserSide];
            int codes = 1;
            for (int i = 0; i < told.people[lesserSide]; i++) {
                codes *= choices;
            }
            int ways = 0;
            for (int code = 0; code < codes; code++) {
                if (giveByCode(told, lesserSide, code) && firstWhoWouldRather(told) == NONE) {
                    ways++;
                }
            }
            return ways;
        }

        /** The code's digits, to the base of how many there are to choose, are whom each gets; false if one comes twice. */
        private boolean giveByCode(Told told, int side, int code) {
            letAllGo();
            int choices = told.people[RIGHT - side];
            int rest = code;
            for (int i = 0; i < told.people[side]; i++) {
                if (choices < 1) {
                    return false;
                }
                int one = side * SIDE + i;
                if (!give(one, otherStart(one) + rest % choices)) {
                    return false;
                }
                rest /= choices;
            }
            return true;
        }

        /** The first two (10 times the left and the right number) who like each other more; NONE. */
        int firstWhoWouldRather(Told told) {
            for (int left = 0; left < told.people[LEFT]; left++) {
                for (int right = 0; right < told.people[RIGHT]; right++) {
                    int other = SIDE + right;
                    if (wouldRather(told, left, other) && wouldRather(told, other, left)) {
                        return 10 * left + right;
                    }
                }
            }
            return NONE;
        }

        private boolean wouldRather(Told told, int one, int other) {
            return has[one] == NONE || told.likes(one, other) > told.likes(one, has[one]);
        }
    }
}
