/** A game of folded maps with secret creases; ../shared/DOC.md says what each call answers. */
public final class CreaseMaps {

    public static final int NONE = -1;

    private static final int PANELS = 10;
    private static final int CREASES = 9;
    private static final int TOWNS = 6;
    private static final int FOLDINGS = 512;
    private static final int MOST_ANSWERS = 12;
    private static final int MOST_SAVED = 6;
    private static final int MOST_SIGNS = 60;
    private static final int SLOTS = 2;
    private static final int MOST_STRENGTH = 9;
    private static final int RIGHT_GUESS = 10;
    private static final int PLACE_SHIFT = 100;
    private static final int COUNTS = 11;
    private static final int DIGEST_RANKS = 4;
    private static final long DIGEST_START = 3697L;

    private final State now = new State();
    private final History history = new History();
    private final State[] slots = new State[SLOTS];
    private final MapText text = new MapText();
    private final Census census = new Census();

    public CreaseMaps() {
    }

    // ---- the strip

    public int fold(int crease) throws IndexOutOfBoundsException {
        requireCrease(crease);
        beforeChange();
        if (has(now.torn, crease)) {
            return refuse();
        }
        now.turn(crease);
        return bit(now.folded, crease);
    }

    public int move(int town, int panel) throws IndexOutOfBoundsException, IllegalArgumentException {
        requireTown(town);
        if (panel < 0 || panel >= PANELS) {
            throw new IllegalArgumentException("no such panel");
        }
        beforeChange();
        int before = now.towns[town];
        now.towns[town] = panel;
        now.answers.clear();
        return before;
    }

    public int pull(int strength) throws IllegalArgumentException {
        if (strength < 1 || strength > MOST_STRENGTH) {
            throw new IllegalArgumentException("strength is out of range");
        }
        beforeChange();
        return now.tear(10 - strength);
    }

    public int renew() {
        beforeChange();
        int torn = Integer.bitCount(now.torn);
        now.takeNewStrip(0);
        return torn;
    }

    // ---- asking

    public int ask(int town, int other) throws IndexOutOfBoundsException, IllegalArgumentException {
        requireTwoTowns(town, other);
        beforeChange();
        int panel = now.towns[town];
        int next = now.towns[other];
        if (now.answers.size >= MOST_ANSWERS || now.answers.about(panel, next) != NONE) {
            return refuse();
        }
        int answer = Line.meeting(now.folded, panel, next);
        now.answers.add(panel, next, answer);
        now.questions++;
        return answer;
    }

    public int guess(int folding) throws IllegalArgumentException {
        if (folding < 0 || folding >= FOLDINGS) {
            throw new IllegalArgumentException("folding is out of range");
        }
        beforeChange();
        now.guesses++;
        if (folding == now.folded) {
            now.rightGuesses++;
            return RIGHT_GUESS;
        }
        return CREASES - Integer.bitCount(folding ^ now.folded);
    }

    public int forget() {
        beforeChange();
        int kept = now.answers.size;
        now.answers.clear();
        return kept;
    }

    // ---- texts, snapshots

    public int append(int code) throws IllegalArgumentException, IllegalStateException {
        if (code < 33 || code > 126) {
            throw new IllegalArgumentException("no such character");
        }
        if (text.length >= MOST_SIGNS) {
            throw new IllegalStateException("the buffer is full");
        }
        text.add(code);
        return text.length;
    }

    public int clearBuffer() {
        int length = text.length;
        text.clear();
        return length;
    }

    public int firstError() {
        return text.errorIndex();
    }

    public int load() throws IllegalArgumentException {
        if (!text.tellsMap()) {
            throw new IllegalArgumentException("the buffer does not tell a map");
        }
        beforeChange();
        now.takeNewStrip(text.foldingTold());
        for (int town = 0; town < TOWNS; town++) {
            now.towns[town] = text.panelTold(town);
        }
        text.clear();
        return Integer.bitCount(now.folded);
    }

    public int keep(int slot) throws IllegalArgumentException {
        requireSlot(slot);
        if (slots[slot] == null) {
            slots[slot] = new State();
        }
        slots[slot].copyFrom(now);
        return now.answers.size;
    }

    public int goBack(int slot) throws IllegalArgumentException, IllegalStateException {
        requireSlot(slot);
        if (slots[slot] == null) {
            throw new IllegalStateException("no snapshot in the slot");
        }
        beforeChange();
        now.copyFrom(slots[slot]);
        return now.answers.size;
    }

    public int undo() throws IllegalStateException {
        if (history.size == 0) {
            throw new IllegalStateException("no saved state");
        }
        census.lapse();
        history.restore(now);
        return history.size;
    }

    // ---- looks; nothing is changed

    public int panelOf(int panel, int what) throws IndexOutOfBoundsException, IllegalArgumentException {
        if (panel < 0 || panel >= PANELS) {
            throw new IndexOutOfBoundsException("no such panel");
        }
        requireWhat(what, 3);
        switch (what) {
            case 0:
                return Line.placeOf(now.folded, panel) + PLACE_SHIFT;
            case 1:
                return now.townsOn(panel);
            default:
                return Line.panelsWith(now.folded, panel);
        }
    }

    public int creaseOf(int crease, int what) throws IndexOutOfBoundsException, IllegalArgumentException {
        requireCrease(crease);
        requireWhat(what, 4);
        switch (what) {
            case 0:
                return bit(now.folded, crease);
            case 1:
                return now.wear[crease];
            case 2:
                return bit(now.torn, crease);
            default:
                return census.of(now).surely(crease);
        }
    }

    public int between(int town, int other, int what)
            throws IndexOutOfBoundsException, IllegalArgumentException {
        requireTown(town);
        requireTown(other);
        requireWhat(what, 4);
        int panel = now.towns[town];
        int next = now.towns[other];
        switch (what) {
            case 0:
                return Math.abs(panel - next);
            case 1:
                return Math.abs(Line.placeOf(now.folded, panel) - Line.placeOf(now.folded, next));
            case 2:
                return Line.meeting(now.folded, panel, next);
            default:
                return now.answers.about(panel, next);
        }
    }

    public int town(int town) throws IndexOutOfBoundsException {
        requireTown(town);
        return now.towns[town];
    }

    public int count(int what) throws IllegalArgumentException {
        requireWhat(what, COUNTS);
        switch (what) {
            case 0:
                return Integer.bitCount(now.folded);
            case 1:
                return Integer.bitCount(now.torn);
            case 2:
                return Line.width(now.folded);
            case 3:
                return now.answers.size;
            case 4:
                return census.of(now).size;
            case 5:
                return foldingsWalked(now, 0, 0);
            case 6:
                return now.questions;
            case 7:
                return now.guesses;
            case 8:
                return now.rightGuesses;
            case 9:
                return now.refused;
            default:
                return history.size;
        }
    }

    // ---- what would be; nothing is changed

    public int ifTouching(int town, int other) throws IndexOutOfBoundsException, IllegalArgumentException {
        requireTwoTowns(town, other);
        return census.of(now).withMeeting(now.towns[town], now.towns[other]);
    }

    public int bestQuestion() {
        int best = NONE;
        int leastLeft = FOLDINGS + 1;
        for (int town = 0; town < TOWNS; town++) {
            for (int other = town + 1; other < TOWNS; other++) {
                if (isWorthAsking(town, other)) {
                    int left = mostLeftAfter(town, other);
                    if (left < leastLeft) {
                        leastLeft = left;
                        best = 10 * town + other;
                    }
                }
            }
        }
        return best;
    }

    public int folding(int rank) throws IllegalArgumentException {
        if (rank < 0) {
            throw new IllegalArgumentException("rank is below 0");
        }
        return census.of(now).maskAt(rank);
    }

    public int weakest() {
        int weakest = NONE;
        int greatest = -1;
        for (int crease = 0; crease < CREASES; crease++) {
            if (has(now.folded, crease) && now.wear[crease] > greatest) {
                greatest = now.wear[crease];
                weakest = crease;
            }
        }
        return weakest;
    }

    public double sureShare() {
        int fits = census.of(now).size;
        if (fits <= 0) {
            return 0.0;
        }
        return 1.0 / (double) fits;
    }

    public long digest() {
        long hash = DIGEST_START;
        for (int what = 0; what < COUNTS; what++) {
            hash = mix(hash, count(what));
        }
        hash = mixStrip(hash);
        hash = mixTowns(hash);
        hash = mix(hash, bestQuestion());
        for (int rank = 0; rank < DIGEST_RANKS; rank++) {
            hash = mix(hash, folding(rank));
        }
        hash = mix(hash, weakest());
        hash = mix(hash, bitsOfShare(sureShare()));
        for (int slot = 0; slot < SLOTS; slot++) {
            hash = mix(hash, slots[slot] == null ? 0 : 1);
        }
        hash = mix(hash, text.length);
        for (int i = 0; i < text.length; i++) {
            hash = mix(hash, text.signs[i]);
        }
        return hash;
    }

    private long mixStrip(long start) {
        long hash = start;
        for (int panel = 0; panel < PANELS; panel++) {
            for (int what = 0; what < 3; what++) {
                hash = mix(hash, panelOf(panel, what));
            }
        }
        for (int crease = 0; crease < CREASES; crease++) {
            for (int what = 0; what < 4; what++) {
                hash = mix(hash, creaseOf(crease, what));
            }
        }
        return hash;
    }

    private long mixTowns(long start) {
        long hash = start;
        for (int town = 0; town < TOWNS; town++) {
            hash = mix(hash, now.towns[town]);
            for (int other = town + 1; other < TOWNS; other++) {
                for (int what = 0; what < 4; what++) {
                    hash = mix(hash, between(town, other, what));
                }
            }
        }
        return hash;
    }

    private static long mix(long hash, long value) {
        return 31L * hash + value;
    }

    /** Stands in for Double.doubleToLongBits, which LANGUAGE.md does not list; for shares of 0.0 to 1.0 alone. */
    private static long bitsOfShare(double share) {
        if (share <= 0.0) {
            return 0L;
        }
        double scaled = share;
        long exponent = 1023L;
        for (int i = 0; i < 1022 && scaled < 1.0; i++) {
            scaled = scaled * 2.0;
            exponent--;
        }
        long fraction = (long) ((scaled - 1.0) * 4503599627370496.0);
        return (exponent << 52) + fraction;
    }

    /** Every undoable call comes through here once it can no longer throw. */
    private void beforeChange() {
        history.save(now);
        census.lapse();
    }

    private int refuse() {
        now.refused++;
        return NONE;
    }

    private boolean isWorthAsking(int town, int other) {
        int panel = now.towns[town];
        int next = now.towns[other];
        return panel != next && now.answers.about(panel, next) == NONE;
    }

    private int mostLeftAfter(int town, int other) {
        Census fits = census.of(now);
        int touching = fits.withMeeting(now.towns[town], now.towns[other]);
        return Math.max(touching, fits.size - touching);
    }

    /** Goes from panel to panel, and leaves a way as soon as an answer about its last panel does not fit. */
    private static int foldingsWalked(State state, int panel, int folding) {
        if (!state.answers.fitAt(panel, folding)) {
            return 0;
        }
        if (panel >= CREASES) {
            return 1;
        }
        int found = foldingsWalked(state, panel + 1, folding);
        if (!has(state.torn, panel)) {
            found += foldingsWalked(state, panel + 1, folding | 1 << panel);
        }
        return found;
    }

    private static boolean has(int mask, int index) {
        return bit(mask, index) == 1;
    }

    private static int bit(int mask, int index) {
        return mask >> index & 1;
    }

    private static void requireCrease(int crease) {
        if (crease < 0 || crease >= CREASES) {
            throw new IndexOutOfBoundsException("no such crease");
        }
    }

    private static void requireTown(int town) {
        if (town < 0 || town >= TOWNS) {
            throw new IndexOutOfBoundsException("no such town");
        }
    }

    private static void requireTwoTowns(int town, int other) {
        requireTown(town);
        requireTown(other);
        if (town == other) {
            throw new IllegalArgumentException("both towns are the same");
        }
    }

    private static void requireWhat(int what, int kinds) {
        if (what < 0 || what >= kinds) {
            throw new IllegalArgumentException("what is out of range");
        }
    }

    private static void requireSlot(int slot) {
        if (slot < 0 || slot >= SLOTS) {
            throw new IllegalArgumentException("slot is out of range");
        }
    }

    /** How a strip with the folded creases of a mask lies along its line. */
    private static final class Line {

        static int placeOf(int folding, int panel) {
            int place = 0;
            int way = 1;
            for (int crease = 0; crease < panel; crease++) {
                if ((folding >> crease & 1) == 1) {
                    way = -way;
                } else {
                    place += way;
                }
            }
            return place;
        }

        /** 1 if both panels lie at one place, otherwise 0: the form in which answers are kept. */
        static int meeting(int folding, int panel, int other) {
            int low = Math.min(panel, other);
            int length = Math.abs(panel - other);
            // Only the creases between the two panels matter.
            return placeOf(folding >> low, length) == 0 ? 1 : 0;
        }

        static int panelsWith(int folding, int panel) {
            int found = 0;
            for (int other = 0; other < PANELS; other++) {
                found += meeting(folding, panel, other);
            }
            return found;
        }

        static int width(int folding) {
            int least = 0;
            int greatest = 0;
            for (int panel = 1; panel < PANELS; panel++) {
                int place = placeOf(folding, panel);
                least = Math.min(least, place);
                greatest = Math.max(greatest, place);
            }
            return greatest - least + 1;
        }
    }

    /** The answers that are kept: each of two panels, the lower one first. */
    private static final class Answers {

        final int[] lows = new int[MOST_ANSWERS];
        final int[] highs = new int[MOST_ANSWERS];
        final int[] meetings = new int[MOST_ANSWERS];
        int size;

        void clear() {
            size = 0;
        }

        void add(int panel, int other, int meeting) {
            if (size < 0 || size >= MOST_ANSWERS) {
                return;
            }
            lows[size] = Math.min(panel, other);
            highs[size] = Math.max(panel, other);
            meetings[size] = meeting;
            size++;
        }

        int about(int panel, int other) {
            int low = Math.min(panel, other);
            int high = Math.max(panel, other);
            for (int i = 0; i < size; i++) {
                if (lows[i] == low && highs[i] == high) {
                    return meetings[i];
                }
            }
            return NONE;
        }

        boolean fit(int folding) {
            for (int i = 0; i < size; i++) {
                if (Line.meeting(folding, lows[i], highs[i]) != meetings[i]) {
                    return false;
                }
            }
            return true;
        }

        /** Whether the answers fit whose higher panel is this one: all others are told earlier or later on a walk. */
        boolean fitAt(int panel, int folding) {
            for (int i = 0; i < size; i++) {
                if (highs[i] == panel && Line.meeting(folding, lows[i], panel) != meetings[i]) {
                    return false;
                }
            }
            return true;
        }

        void copyFrom(Answers other) {
            System.arraycopy(other.lows, 0, lows, 0, MOST_ANSWERS);
            System.arraycopy(other.highs, 0, highs, 0, MOST_ANSWERS);
            System.arraycopy(other.meetings, 0, meetings, 0, MOST_ANSWERS);
            size = other.size;
        }
    }

    /** All that a snapshot holds. */
    private static final class State {

        int folded;
        int torn;
        final int[] wear = new int[CREASES];
        final int[] towns = new int[TOWNS];
        final Answers answers = new Answers();
        int questions;
        int guesses;
        int rightGuesses;
        int refused;

        State() {
            for (int town = 0; town < TOWNS; town++) {
                towns[town] = town;
            }
        }

        void turn(int crease) {
            folded ^= 1 << crease;
            wear[crease]++;
            answers.clear();
        }

        int tear(int leastWear) {
            int tearing = 0;
            for (int crease = 0; crease < CREASES; crease++) {
                if (has(folded, crease) && wear[crease] >= leastWear) {
                    tearing |= 1 << crease;
                }
            }
            folded &= ~tearing;
            torn |= tearing;
            if (tearing != 0) {
                answers.clear();
            }
            return Integer.bitCount(tearing);
        }

        void takeNewStrip(int folding) {
            folded = folding;
            torn = 0;
            for (int crease = 0; crease < CREASES; crease++) {
                wear[crease] = 0;
            }
            answers.clear();
        }

        int townsOn(int panel) {
            int mask = 0;
            for (int town = 0; town < TOWNS; town++) {
                if (towns[town] == panel) {
                    mask |= 1 << town;
                }
            }
            return mask;
        }

        void copyFrom(State other) {
            folded = other.folded;
            torn = other.torn;
            System.arraycopy(other.wear, 0, wear, 0, CREASES);
            System.arraycopy(other.towns, 0, towns, 0, TOWNS);
            answers.copyFrom(other.answers);
            questions = other.questions;
            guesses = other.guesses;
            rightGuesses = other.rightGuesses;
            refused = other.refused;
        }
    }

    /** The saved states, the oldest one first; their rows are made once, so that no call makes new ones. */
    private static final class History {

        final State[] states = new State[MOST_SAVED];
        int size;

        History() {
            for (int i = 0; i < MOST_SAVED; i++) {
                states[i] = new State();
            }
        }

        void save(State state) {
            if (size >= MOST_SAVED) {
                dropOldest();
            }
            states[size].copyFrom(state);
            size++;
        }

        private void dropOldest() {
            State oldest = states[0];
            for (int i = 1; i < MOST_SAVED; i++) {
                states[i - 1] = states[i];
            }
            states[MOST_SAVED - 1] = oldest;
            size = MOST_SAVED - 1;
        }

        void restore(State state) {
            if (size > 0) {
                size--;
                state.copyFrom(states[size]);
            }
        }
    }

    /** The foldings that fit, told by all foldings; kept until the next change, as one digest looks at them often. */
    private static final class Census {

        final int[] masks = new int[FOLDINGS];
        int size;
        boolean upToDate;

        void lapse() {
            upToDate = false;
        }

        Census of(State state) {
            if (upToDate) {
                return this;
            }
            size = 0;
            for (int folding = 0; folding < FOLDINGS; folding++) {
                if ((folding & state.torn) == 0 && state.answers.fit(folding)) {
                    masks[size] = folding;
                    size++;
                }
            }
            upToDate = true;
            return this;
        }

        int maskAt(int rank) {
            return rank >= 0 && rank < size ? masks[rank] : NONE;
        }

        int withMeeting(int panel, int other) {
            int found = 0;
            for (int i = 0; i < size; i++) {
                found += Line.meeting(masks[i], panel, other);
            }
            return found;
        }

        int surely(int crease) {
            int folded = 0;
            for (int i = 0; i < size; i++) {
                folded += bit(masks[i], crease);
            }
            if (folded == size) {
                return 1;
            }
            return folded == 0 ? 0 : NONE;
        }
    }

    /** The buffer, and how it is read as a map. */
    private static final class MapText {

        final int[] signs = new int[MOST_SIGNS];
        int length;

        void add(int sign) {
            if (length >= 0 && length < MOST_SIGNS) {
                signs[length] = sign;
                length++;
            }
        }

        void clear() {
            length = 0;
        }

        int errorIndex() {
            for (int i = 0; i < length; i++) {
                if (isError(i)) {
                    return i;
                }
            }
            return length;
        }

        /** Asked of a character only when none before it is an error. */
        private boolean isError(int index) {
            int sign = signs[index];
            if (isCrease(sign)) {
                return creasesBefore(index) >= CREASES;
            }
            return !isTown(sign) || indexOf(sign) < index;
        }

        boolean tellsMap() {
            return errorIndex() == length && creasesBefore(length) == CREASES;
        }

        int foldingTold() {
            int folding = 0;
            int crease = 0;
            for (int i = 0; i < length; i++) {
                if (isCrease(signs[i])) {
                    if (signs[i] == '^') {
                        folding |= 1 << crease;
                    }
                    crease++;
                }
            }
            return folding;
        }

        /** A town that is not told lies on the panel 0. */
        int panelTold(int town) {
            int index = indexOf('a' + town);
            return index < length ? creasesBefore(index) : 0;
        }

        private int creasesBefore(int end) {
            int found = 0;
            for (int i = 0; i < end; i++) {
                if (isCrease(signs[i])) {
                    found++;
                }
            }
            return found;
        }

        /** The length, if there is no such character. */
        private int indexOf(int sign) {
            for (int i = 0; i < length; i++) {
                if (signs[i] == sign) {
                    return i;
                }
            }
            return length;
        }

        private static boolean isCrease(int sign) {
            return sign == '|' || sign == '^';
        }

        private static boolean isTown(int sign) {
            return sign >= 'a' && sign < 'a' + TOWNS;
        }
    }
}
