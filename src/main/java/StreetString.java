/**
 * One string for a whole street: windows with hooks, fingers that part it, evenings, tunes,
 * guesses and debts, as ../shared/DOC.md promises. No call throws, and none makes an object
 * once the constructor is through: every row that a call needs stands from the beginning.
 */
public final class StreetString {
    public static final int NONE = -6, UNKNOWN = -1, OUTSIDE = -2, STATE = -3, FULL = -4, NO = -5;
    public static final long LOST = -1000000000000000000L;

    private static final int LEAST_WINDOWS = 2;
    private static final int MOST_WINDOWS = 10;
    private static final int FIRST_WINDOWS = 6;
    private static final int MOST_SETS = 1 << MOST_WINDOWS;
    private static final int MOST_FEET = 9;
    private static final int FIRST_FEET = 2;
    private static final int MOST_DAMP = 9;
    private static final int MOST_LIMIT = 99;
    private static final int FIRST_LIMIT = 4;
    private static final int MOST_RENT = 9;
    private static final int FIRST_RENT = 1;
    private static final int MOST_SIGNS = 60;
    private static final int LEAST_SIGN = 33;
    private static final int MOST_SIGN = 126;
    private static final int MOST_TONE = 20;
    private static final int MOST_LENGTH = 200;
    private static final int MOST_SIGHTS = 8;
    private static final int MOST_BORROWED = 9;
    private static final int DEBT_BOUND = 1000;
    private static final int LEAST_STRING = 2;
    private static final int MOST_STRING = 16;
    private static final int STRING_LENGTHS = (1 << (MOST_STRING + 1)) - 2;
    private static final int MOST_HOOKS = 6;
    private static final int MOST_SEED = 9999;
    private static final int MOST_ACTS = 99;
    private static final int TENTHS = 10;
    private static final int GAPS_TOLD_FROM = 10;

    private final Street street;
    private final Street firstImage;
    private final Street secondImage;
    private boolean firstKept;
    private boolean secondKept;
    private final Pad pad;
    private final Evening evening;
    private final Stops stops;
    private final Guesses guesses;
    private final Ledger ledger;
    private final Game game;

    public StreetString() {
        street = new Street();
        firstImage = new Street();
        secondImage = new Street();
        firstKept = false;
        secondKept = false;
        pad = new Pad();
        evening = new Evening();
        stops = new Stops();
        guesses = new Guesses();
        ledger = new Ledger();
        game = new Game();
    }

    // ---- 1 windows, evenings

    public int windows(int n) {
        if (isOutside(n, LEAST_WINDOWS, MOST_WINDOWS)) {
            return OUTSIDE;
        }
        int before = street.count;
        street.beginAnew(n);
        return before;
    }

    public int gap(int window, int feet) {
        if (!street.has(window)) {
            return UNKNOWN;
        }
        if (isOutside(feet, 1, MOST_FEET)) {
            return OUTSIDE;
        }
        int before = street.gaps[window];
        street.gaps[window] = feet;
        street.measure();
        return before;
    }

    public int set(int which, int v) {
        switch (which) {
            case 0:
                return putEnd(v);
            case 1:
                return putLimit(v);
            case 2:
                return putRent(v);
            default:
                return OUTSIDE;
        }
    }

    public int say(int sign) {
        if (isOutside(sign, LEAST_SIGN, MOST_SIGN)) {
            return OUTSIDE;
        }
        return pad.write(sign) ? pad.count : FULL;
    }

    public int wipe() {
        return pad.clear();
    }

    public int fault(int how) {
        if (isOutside(how, 0, 1)) {
            return OUTSIDE;
        }
        return how == 0 ? pad.eveningFault(street.count) : pad.tuneFault();
    }

    // ---- 2 evenings, intervals

    public int judge(int what) {
        if (isOutside(what, 0, 1)) {
            return OUTSIDE;
        }
        if (pad.eveningFault(street.count) != NONE) {
            return NO;
        }
        evening.play(pad, street, false);
        if (evening.reason == 0) {
            return NONE;
        }
        return what == 0 ? evening.actsDone : evening.reason;
    }

    public int done() {
        if (!canBePlayed(false)) {
            return NO;
        }
        street.fingers = evening.trial.fingers;
        street.damp = evening.trial.damp;
        return pad.clear();
    }

    public int hears(int window) {
        if (!street.has(window)) {
            return UNKNOWN;
        }
        return street.lengthAt(window, street.fingers);
    }

    public int behind(int window) {
        if (!street.has(window)) {
            return UNKNOWN;
        }
        if (!canBePlayed(false)) {
            return NO;
        }
        return evening.trial.lengthAt(window, evening.trial.fingers);
    }

    public int clashed(int what) {
        if (isOutside(what, 0, 1)) {
            return OUTSIDE;
        }
        if (!canBePlayed(true)) {
            return NO;
        }
        return what == 0 ? evening.firstClash : evening.clashes;
    }

    public long interval(int window, int other, int part) {
        if (!areTwo(window, other)) {
            return LOST + UNKNOWN;
        }
        if (isOutside(part, 0, 1)) {
            return LOST + OUTSIDE;
        }
        int one = street.lengthAt(window, street.fingers);
        int two = street.lengthAt(other, street.fingers);
        return lowestTerms(Math.max(one, two), Math.min(one, two), part);
    }

    public int heard(int what) {
        if (isOutside(what, 0, 1)) {
            return OUTSIDE;
        }
        return what == 0 ? differentLengths() : hearersOfLongest();
    }

    // ---- 3 stops, tunes

    public int stopped(int window, int v, int what) {
        if (!street.has(window)) {
            return UNKNOWN;
        }
        if (isOutside(v, 1, MOST_LENGTH) || isOutside(what, 0, 1)) {
            return OUTSIDE;
        }
        return sizeOrSet(Stops.fewestFingers(street, window, v, window, v), what);
    }

    public int friends(int window, int v, int other, int w, int what) {
        if (!areTwo(window, other)) {
            return UNKNOWN;
        }
        if (isOutside(v, 1, MOST_LENGTH) || isOutside(w, 1, MOST_LENGTH) || isOutside(what, 0, 1)) {
            return OUTSIDE;
        }
        return sizeOrSet(Stops.fewestFingers(street, window, v, other, w), what);
    }

    public int changes(int window, int what) {
        if (!street.has(window)) {
            return UNKNOWN;
        }
        if (isOutside(what, 0, 1)) {
            return OUTSIDE;
        }
        if (pad.tuneFault() != NONE) {
            return NO;
        }
        stops.playTune(street, window, pad);
        if (stops.lastSet == NONE) {
            return NONE;
        }
        return what == 0 ? stops.lastCost : stops.lastSet;
    }

    public int shifts(int window, int other) {
        if (!areTwo(window, other)) {
            return UNKNOWN;
        }
        if (pad.tuneFault() != NONE) {
            return NO;
        }
        return stops.fittingShifts(street, window, other, pad);
    }

    // ---- 4 who stopped it, octaves, feet

    public int seen(int window, int v) {
        if (!street.has(window)) {
            return UNKNOWN;
        }
        if (isOutside(v, 1, MOST_LENGTH)) {
            return OUTSIDE;
        }
        return street.addSight(window, v) ? street.sightCount : FULL;
    }

    public int forget() {
        int before = street.sightCount;
        street.sightCount = 0;
        return before;
    }

    public int fit(int what) {
        if (isOutside(what, 0, 3)) {
            return OUTSIDE;
        }
        guesses.gather(street);
        switch (what) {
            case 0:
                return guesses.found;
            case 1:
                return guesses.inSome();
            case 2:
                return guesses.inAll();
            default:
                return guesses.least();
        }
    }

    public int ask(int what) {
        if (isOutside(what, 0, 1)) {
            return OUTSIDE;
        }
        guesses.gather(street);
        guesses.chooseWindow(street);
        return what == 0 ? guesses.bestWindow : guesses.mostLeft;
    }

    public int borrow(int window, int other, int v) {
        if (!areTwo(window, other)) {
            return UNKNOWN;
        }
        if (isOutside(v, 1, MOST_BORROWED)) {
            return OUTSIDE;
        }
        int owed = street.owes[window] + v;
        int left = street.owes[other] - v;
        if (owed >= DEBT_BOUND || left <= -DEBT_BOUND) {
            return STATE;
        }
        street.owes[window] = owed;
        street.owes[other] = left;
        return owed + DEBT_BOUND;
    }

    public int teas() {
        return ledger.fewestPayments(street);
    }

    public int feet() {
        int willing = 0;
        for (int window = 0; window < street.count; window++) {
            if (gainsByOwnFinger(window)) {
                willing |= 1 << window;
            }
        }
        return willing;
    }

    public int hooks(int f, int lengths, int what) {
        if (isOutside(f, LEAST_STRING, MOST_STRING) || isOutside(what, 0, 1)) {
            return OUTSIDE;
        }
        if ((lengths & ~STRING_LENGTHS) != 0) {
            return OUTSIDE;
        }
        return sizeOrSet(Ruler.fewestHooks(f, lengths), what);
    }

    public int turns(int what) {
        if (isOutside(what, 0, 1)) {
            return OUTSIDE;
        }
        int window = game.winningWindow(street);
        if (what == 1) {
            return window;
        }
        return window == NONE ? 1 : 0;
    }

    public long slips(int window, int v, int t, int part) {
        if (!street.has(window)) {
            return LOST + UNKNOWN;
        }
        if (isOutside(v, 1, MOST_LENGTH) || isOutside(t, 0, TENTHS) || isOutside(part, 0, 1)) {
            return LOST + OUTSIDE;
        }
        return lowestTerms(Chance.toHear(street, window, v, t), Chance.ofAll(street), part);
    }

    public long calm(int t, int part) {
        if (isOutside(t, 0, TENTHS) || isOutside(part, 0, 1)) {
            return LOST + OUTSIDE;
        }
        return lowestTerms(Chance.toBeCalm(street, t), Chance.ofAll(street), part);
    }

    public int year(int seed, int m, int what) {
        if (isOutside(seed, 0, MOST_SEED) || isOutside(m, 1, MOST_ACTS) || isOutside(what, 0, 2)) {
            return OUTSIDE;
        }
        evening.draw(street, seed, m);
        switch (what) {
            case 0:
                return evening.clashes;
            case 1:
                return evening.feetHeard;
            default:
                return evening.trial.fingers;
        }
    }

    public int image(int n) {
        if (isOutside(n, 0, 1)) {
            return OUTSIDE;
        }
        if (n == 0) {
            firstImage.copyFrom(street);
            firstKept = true;
        } else {
            secondImage.copyFrom(street);
            secondKept = true;
        }
        return 1;
    }

    public int restore(int n) {
        if (isOutside(n, 0, 1)) {
            return OUTSIDE;
        }
        if (!(n == 0 ? firstKept : secondKept)) {
            return STATE;
        }
        street.copyFrom(n == 0 ? firstImage : secondImage);
        return 1;
    }

    public int told(int what) {
        switch (what) {
            case 0:
                return pad.count;
            case 1:
                return street.count;
            case 2:
                return street.end;
            case 3:
                return street.limit;
            case 4:
                return street.rent;
            case 5:
                return street.damp;
            case 6:
                return street.fingers;
            case 7:
                return street.sightCount;
            default:
                return gapTold(what);
        }
    }

    // ---- what the calls share

    private static boolean isOutside(int number, int least, int most) {
        return number < least || number > most;
    }

    private boolean areTwo(int window, int other) {
        return street.has(window) && street.has(other) && window != other;
    }

    private int putEnd(int v) {
        if (isOutside(v, 1, MOST_FEET)) {
            return OUTSIDE;
        }
        int before = street.end;
        street.end = v;
        return before;
    }

    private int putLimit(int v) {
        if (isOutside(v, 1, MOST_LIMIT)) {
            return OUTSIDE;
        }
        int before = street.limit;
        street.limit = v;
        return before;
    }

    private int putRent(int v) {
        if (isOutside(v, 0, MOST_RENT)) {
            return OUTSIDE;
        }
        int before = street.rent;
        street.rent = v;
        return before;
    }

    private int gapTold(int what) {
        if (isOutside(what, GAPS_TOLD_FROM, GAPS_TOLD_FROM + street.count - 1)) {
            return OUTSIDE;
        }
        return street.gaps[what - GAPS_TOLD_FROM];
    }

    private boolean canBePlayed(boolean listen) {
        if (pad.eveningFault(street.count) != NONE) {
            return false;
        }
        evening.play(pad, street, listen);
        return evening.reason == 0;
    }

    private int differentLengths() {
        int different = 0;
        for (int window = 0; window < street.count; window++) {
            if (!isHeardAbove(window)) {
                different++;
            }
        }
        return different;
    }

    private boolean isHeardAbove(int window) {
        int length = street.lengthAt(window, street.fingers);
        for (int above = 0; above < window; above++) {
            if (street.lengthAt(above, street.fingers) == length) {
                return true;
            }
        }
        return false;
    }

    private int hearersOfLongest() {
        int longest = 0;
        int hearers = 0;
        for (int window = 0; window < street.count; window++) {
            int length = street.lengthAt(window, street.fingers);
            if (length > longest) {
                longest = length;
                hearers = 0;
            }
            if (length == longest) {
                hearers++;
            }
        }
        return hearers;
    }

    private boolean gainsByOwnFinger(int window) {
        int changed = street.fingers ^ (1 << window);
        if (!street.allows(changed)) {
            return false;
        }
        int now = street.lengthAt(window, street.fingers);
        return street.worth(street.lengthAt(window, changed)) > street.worth(now);
    }

    private static int sizeOrSet(int found, int what) {
        if (found == NONE) {
            return NONE;
        }
        return what == 0 ? Integer.bitCount(found) : found;
    }

    private static long lowestTerms(long upper, long lower, int part) {
        long shared = commonDivisor(upper, lower);
        long told = part == 0 ? upper : lower;
        return shared < 1 ? told : told / shared;
    }

    private static long commonDivisor(long one, long other) {
        long larger = one;
        long smaller = other;
        // Euclid's way halves a number every two steps, so a long is through far sooner
        for (int step = 0; step < 200 && smaller != 0; step++) {
            long left = larger % smaller;
            larger = smaller;
            smaller = left;
        }
        return larger;
    }

    /** All that an image keeps. */
    private static final class Street {
        int count;
        int end;
        int limit;
        int rent;
        int damp;
        int fingers;
        int sightCount;
        final int[] gaps;
        final int[] places;
        final int[] sightWindows;
        final int[] sightLengths;
        final int[] owes;
        final int[] tones;

        Street() {
            limit = FIRST_LIMIT;
            rent = FIRST_RENT;
            gaps = new int[MOST_WINDOWS];
            places = new int[MOST_WINDOWS];
            sightWindows = new int[MOST_SIGHTS];
            sightLengths = new int[MOST_SIGHTS];
            owes = new int[MOST_WINDOWS];
            tones = new int[MOST_WINDOWS];
            beginAnew(FIRST_WINDOWS);
        }

        void beginAnew(int n) {
            count = n;
            end = FIRST_FEET;
            damp = 0;
            fingers = 0;
            sightCount = 0;
            for (int window = 0; window < MOST_WINDOWS; window++) {
                gaps[window] = FIRST_FEET;
                owes[window] = 0;
            }
            measure();
        }

        void copyFrom(Street other) {
            count = other.count;
            end = other.end;
            limit = other.limit;
            rent = other.rent;
            damp = other.damp;
            fingers = other.fingers;
            sightCount = other.sightCount;
            for (int window = 0; window < MOST_WINDOWS; window++) {
                gaps[window] = other.gaps[window];
                owes[window] = other.owes[window];
            }
            for (int sight = 0; sight < MOST_SIGHTS; sight++) {
                sightWindows[sight] = other.sightWindows[sight];
                sightLengths[sight] = other.sightLengths[sight];
            }
            measure();
        }

        void measure() {
            int feet = 0;
            for (int window = 0; window < MOST_WINDOWS; window++) {
                feet += gaps[window];
                places[window] = feet;
            }
        }

        boolean has(int window) {
            return window >= 0 && window < count && window < MOST_WINDOWS;
        }

        int mostFingers() {
            return count == LEAST_WINDOWS ? 1 : count - 2;
        }

        boolean allows(int set) {
            return Integer.bitCount(set) <= mostFingers();
        }

        int bottom() {
            int last = count - 1;
            return has(last) ? places[last] + end + damp : end + damp;
        }

        int lengthAt(int window, int set) {
            if (!has(window)) {
                return 0;
            }
            int from = 0;
            for (int above = window; above >= 0; above--) {
                if ((set >>> above & 1) != 0) {
                    from = places[above];
                    break;
                }
            }
            for (int below = window + 1; below < count; below++) {
                if ((set >>> below & 1) != 0) {
                    return places[below] - from;
                }
            }
            return bottom() - from;
        }

        boolean clashesBy(int set) {
            // all windows between two fingers hear the same, so each piece is looked at once;
            // the piece above a finger at the first window is heard by nobody
            int from = (set & 1) != 0 ? places[0] : 0;
            int known = 0;
            for (int window = 1; window <= count && known < MOST_WINDOWS; window++) {
                if (window == count || (set >>> window & 1) != 0) {
                    int to = has(window) ? places[window] : bottom();
                    for (int earlier = 0; earlier < known; earlier++) {
                        if (isClash(to - from, tones[earlier])) {
                            return true;
                        }
                    }
                    tones[known] = to - from;
                    known++;
                    from = to;
                }
            }
            return false;
        }

        private boolean isClash(int one, int other) {
            int longer = Math.max(one, other);
            // the longer length has the larger number, which in lowest terms is never above the length
            if (one == other || longer <= limit) {
                return false;
            }
            long shared = commonDivisor(longer, Math.min(one, other));
            return shared > 0 && longer / shared > limit;
        }

        int moreDamp() {
            if (damp >= MOST_DAMP) {
                return 1;
            }
            damp++;
            return 0;
        }

        int lessDamp() {
            if (damp <= 0) {
                return 2;
            }
            damp--;
            return 0;
        }

        int touch(int window) {
            int changed = fingers ^ (1 << window);
            if (!allows(changed)) {
                return 3;
            }
            fingers = changed;
            return 0;
        }

        boolean addSight(int window, int length) {
            if (sightCount < 0 || sightCount >= MOST_SIGHTS) {
                return false;
            }
            sightWindows[sightCount] = window;
            sightLengths[sightCount] = length;
            sightCount++;
            return true;
        }

        boolean isSeen(int window) {
            for (int sight = 0; sight < sightCount && sight < MOST_SIGHTS; sight++) {
                if (sightWindows[sight] == window) {
                    return true;
                }
            }
            return false;
        }

        boolean agreesWithSights(int set) {
            for (int sight = 0; sight < sightCount && sight < MOST_SIGHTS; sight++) {
                if (lengthAt(sightWindows[sight], set) != sightLengths[sight]) {
                    return false;
                }
            }
            return true;
        }

        int worth(int length) {
            return length / 10 * 10 - rent * length;
        }
    }

    /** The signs, read as an evening or as a tune. */
    private static final class Pad {
        int count;
        final int[] signs;

        Pad() {
            count = 0;
            signs = new int[MOST_SIGNS];
        }

        boolean write(int sign) {
            if (count < 0 || count >= MOST_SIGNS) {
                return false;
            }
            signs[count] = sign;
            count++;
            return true;
        }

        int clear() {
            int before = count;
            count = 0;
            return before;
        }

        int signAt(int place) {
            return place >= 0 && place < count && place < MOST_SIGNS ? signs[place] : 0;
        }

        int eveningFault(int windows) {
            for (int place = 0; place < count; place++) {
                if (!isAct(signAt(place), windows)) {
                    return place;
                }
            }
            return NONE;
        }

        private static boolean isAct(int sign, int windows) {
            return sign == '+' || sign == '-' || sign == '.' || (sign >= 'a' && sign < 'a' + windows);
        }

        int tuneFault() {
            for (int place = 0; place < count; place++) {
                if (!isTuneSign(place)) {
                    return place;
                }
            }
            return count == 0 || count % 2 != 0 ? count : NONE;
        }

        private boolean isTuneSign(int place) {
            int digit = signAt(place) - '0';
            if (digit < 0 || digit > 9) {
                return false;
            }
            if (place % 2 == 0) {
                return digit * 10 <= MOST_TONE;
            }
            int tone = toneAt(place / 2);
            return tone >= 1 && tone <= MOST_TONE;
        }

        int toneCount() {
            return count / 2;
        }

        int toneAt(int index) {
            return (signAt(2 * index) - '0') * 10 + signAt(2 * index + 1) - '0';
        }
    }

    /** What acts would do, tried on a street of its own, so that the real one stays as it is. */
    private static final class Evening {
        final Street trial;
        int actsDone;
        int reason;
        int firstClash;
        int clashes;
        int feetHeard;

        Evening() {
            trial = new Street();
            firstClash = NONE;
        }

        void play(Pad pad, Street street, boolean listen) {
            begin(street);
            for (int act = 0; act < pad.count; act++) {
                int sign = pad.signAt(act);
                if (sign != '.') {
                    reason = perform(sign);
                } else if (listen) {
                    listenAt(act);
                }
                if (reason != 0) {
                    return;
                }
                actsDone++;
            }
        }

        void draw(Street street, int seed, int acts) {
            begin(street);
            int x = seed;
            for (int act = 0; act < acts; act++) {
                x = (75 * x + 74) % 65537;
                performDrawn(x);
                listenAt(act);
                feetHeard += trial.lengthAt(0, trial.fingers);
            }
        }

        private void begin(Street street) {
            trial.copyFrom(street);
            actsDone = 0;
            reason = 0;
            firstClash = NONE;
            clashes = 0;
            feetHeard = 0;
        }

        private int perform(int sign) {
            if (sign == '+') {
                return trial.moreDamp();
            }
            if (sign == '-') {
                return trial.lessDamp();
            }
            return trial.touch(sign - 'a');
        }

        private void performDrawn(int x) {
            int kind = x % 5;
            if (kind == 0) {
                trial.moreDamp();
            } else if (kind == 1) {
                trial.lessDamp();
            } else if (trial.count > 0) {
                trial.touch(x / 5 % trial.count);
            }
        }

        private void listenAt(int act) {
            if (!trial.clashesBy(trial.fingers)) {
                return;
            }
            if (clashes == 0) {
                firstClash = act;
            }
            clashes++;
        }
    }

    /** Which fingers give told lengths: once, for a tune, for a tune twice. */
    private static final class Stops {
        private static final int FAR = 1000000;
        final int[] lengths;
        final int[] costs;
        final int[] partners;
        int lastSet;
        int lastCost;
        int firstAlone;
        int secondAlone;

        Stops() {
            lengths = new int[MOST_SETS];
            costs = new int[MOST_SETS];
            partners = new int[MOST_TONE + 1];
            lastSet = NONE;
        }

        static int fewestFingers(Street street, int window, int v, int other, int w) {
            int best = NONE;
            int fewest = street.mostFingers() + 1;
            int sets = 1 << street.count;
            // sets come from the least on, so only fewer fingers can be better later
            for (int set = 0; set < sets; set++) {
                int size = Integer.bitCount(set);
                if (size < fewest && street.lengthAt(window, set) == v && street.lengthAt(other, set) == w) {
                    best = set;
                    fewest = size;
                }
            }
            return best;
        }

        void playTune(Street street, int window, Pad pad) {
            int sets = Math.min(1 << street.count, MOST_SETS);
            for (int set = 0; set < sets; set++) {
                // no tone is 0, so a set of too many fingers never fits one
                lengths[set] = street.allows(set) ? street.lengthAt(window, set) : 0;
                costs[set] = set == street.fingers ? 0 : FAR;
            }
            for (int index = 0; index < pad.toneCount(); index++) {
                spreadCosts(street.count, sets);
                keepTone(pad.toneAt(index), sets);
            }
            chooseLast(sets);
        }

        private void spreadCosts(int windows, int sets) {
            // a change is one bit, so going through the bits one by one finds the cheapest way to each set
            for (int window = 0; window < windows; window++) {
                int bit = 1 << window;
                for (int set = 0; set < sets; set++) {
                    int with = set | bit;
                    if (with != set && with < sets) {
                        evenOut(set, with);
                    }
                }
            }
        }

        private void evenOut(int without, int with) {
            if (costs[without] + 1 < costs[with]) {
                costs[with] = costs[without] + 1;
            } else if (costs[with] + 1 < costs[without]) {
                costs[without] = costs[with] + 1;
            }
        }

        private void keepTone(int tone, int sets) {
            for (int set = 0; set < sets; set++) {
                if (lengths[set] != tone) {
                    costs[set] = FAR;
                }
            }
        }

        private void chooseLast(int sets) {
            lastSet = NONE;
            lastCost = FAR;
            for (int set = 0; set < sets; set++) {
                if (costs[set] < lastCost) {
                    lastSet = set;
                    lastCost = costs[set];
                }
            }
        }

        int fittingShifts(Street street, int window, int other, Pad pad) {
            notePartners(street, window, other);
            int fitting = 0;
            for (int shift = 0; shift < pad.toneCount(); shift++) {
                if (shiftFits(pad, shift)) {
                    fitting |= 1 << shift;
                }
            }
            return fitting;
        }

        private void notePartners(Street street, int window, int other) {
            firstAlone = 0;
            secondAlone = 0;
            for (int tone = 0; tone <= MOST_TONE; tone++) {
                partners[tone] = 0;
            }
            int sets = 1 << street.count;
            for (int set = 0; set < sets; set++) {
                if (street.allows(set)) {
                    notePair(street.lengthAt(window, set), street.lengthAt(other, set));
                }
            }
        }

        private void notePair(int first, int second) {
            int secondBit = second >= 0 && second <= MOST_TONE ? 1 << second : 0;
            secondAlone |= secondBit;
            if (first >= 0 && first <= MOST_TONE) {
                firstAlone |= 1 << first;
                partners[first] |= secondBit;
            }
        }

        private boolean shiftFits(Pad pad, int shift) {
            int tones = pad.toneCount();
            for (int time = 0; time < tones + shift; time++) {
                int allowed = secondAlone;
                if (time < tones) {
                    int first = pad.toneAt(time);
                    if (first < 1 || first > MOST_TONE || (firstAlone >>> first & 1) == 0) {
                        return false;
                    }
                    allowed = partners[first];
                }
                if (time >= shift && (allowed >>> pad.toneAt(time - shift) & 1) == 0) {
                    return false;
                }
            }
            return true;
        }
    }

    /** The sets of fingers that agree with all that was heard. */
    private static final class Guesses {
        final int[] sets;
        final int[] tally;
        int found;
        int bestWindow;
        int mostLeft;

        Guesses() {
            sets = new int[MOST_SETS];
            tally = new int[MOST_LENGTH + 1];
            bestWindow = NONE;
            mostLeft = NONE;
        }

        void gather(Street street) {
            found = 0;
            int all = Math.min(1 << street.count, MOST_SETS);
            for (int set = 0; set < all && found < MOST_SETS; set++) {
                if (street.allows(set) && street.agreesWithSights(set)) {
                    sets[found] = set;
                    found++;
                }
            }
        }

        int inSome() {
            int some = 0;
            for (int index = 0; index < found; index++) {
                some |= sets[index];
            }
            return some;
        }

        int inAll() {
            if (found == 0) {
                return 0;
            }
            int all = MOST_SETS - 1;
            for (int index = 0; index < found; index++) {
                all &= sets[index];
            }
            return all;
        }

        int least() {
            return found == 0 ? NONE : sets[0];
        }

        void chooseWindow(Street street) {
            bestWindow = NONE;
            mostLeft = NONE;
            if (found == 0) {
                return;
            }
            for (int window = 0; window < street.count; window++) {
                if (!street.isSeen(window)) {
                    int left = leftAtMost(street, window);
                    if (bestWindow == NONE || left < mostLeft) {
                        bestWindow = window;
                        mostLeft = left;
                    }
                }
            }
        }

        private int leftAtMost(Street street, int window) {
            for (int length = 0; length <= MOST_LENGTH; length++) {
                tally[length] = 0;
            }
            int most = 0;
            for (int index = 0; index < found; index++) {
                int length = street.lengthAt(window, sets[index]);
                if (length >= 0 && length <= MOST_LENGTH) {
                    tally[length]++;
                    most = Math.max(most, tally[length]);
                }
            }
            return most;
        }
    }

    /** Borrowed octaves: a group that owes nothing to others needs one tea less than it has windows. */
    private static final class Ledger {
        final int[] sums;
        final int[] groups;

        Ledger() {
            sums = new int[MOST_SETS];
            groups = new int[MOST_SETS];
        }

        int fewestPayments(Street street) {
            int windows = Math.min(street.count, MOST_WINDOWS);
            int sets = Math.min(1 << windows, MOST_SETS);
            for (int set = 0; set < sets; set++) {
                countGroups(street, windows, set);
            }
            return windows - groups[sets - 1];
        }

        private void countGroups(Street street, int windows, int set) {
            sums[set] = 0;
            groups[set] = 0;
            for (int window = 0; window < windows; window++) {
                int rest = set & ~(1 << window);
                if (rest != set) {
                    sums[set] = sums[rest] + street.owes[window];
                    groups[set] = Math.max(groups[set], groups[rest]);
                }
            }
            if (set != 0 && sums[set] == 0) {
                groups[set]++;
            }
        }
    }

    /** Hooks on a bare string. */
    private static final class Ruler {
        static int fewestHooks(int f, int lengths) {
            if (lengths >>> (f + 1) != 0) {
                return NONE;
            }
            for (int hooks = 0; hooks <= MOST_HOOKS && hooks < f; hooks++) {
                // so many hooks, the top and the end make so many pairs, and each pair one length
                if ((hooks + 2) * (hooks + 1) / 2 >= Integer.bitCount(lengths)) {
                    int where = leastPlaces(f, lengths, hooks);
                    if (where != NONE) {
                        return where;
                    }
                }
            }
            return NONE;
        }

        private static int leastPlaces(int f, int lengths, int hooks) {
            int inner = (1 << hooks) - 1;
            int bound = 1 << (f - 1);
            for (int step = 0; step < (1 << MOST_STRING) && inner < bound; step++) {
                int places = inner << 1;
                if (hasAll(places | 1 | 1 << f, lengths, f)) {
                    return places;
                }
                if (inner == 0) {
                    return NONE;
                }
                inner = nextOfSameSize(inner);
            }
            return NONE;
        }

        private static int nextOfSameSize(int set) {
            int lowest = set & -set;
            if (lowest == 0) {
                return 0;
            }
            int carried = set + lowest;
            return carried | ((set ^ carried) >>> 2) / lowest;
        }

        private static boolean hasAll(int places, int lengths, int f) {
            // long lengths can be had in the fewest ways, so they fail first
            for (int length = f; length >= 1; length--) {
                if ((lengths >>> length & 1) != 0 && (places & places >>> length) == 0) {
                    return false;
                }
            }
            return true;
        }
    }

    /** Two who put fingers by turns. */
    private static final class Game {
        private static final int LOSES = 0;
        private static final int WINS = 1;
        private static final int BARRED = 2;
        final int[] fates;

        Game() {
            fates = new int[MOST_SETS];
        }

        int winningWindow(Street street) {
            int now = street.fingers;
            int sets = Math.min(1 << street.count, MOST_SETS);
            // more fingers are a larger number, so what comes behind a set is known before it
            for (int set = sets - 1; set > now; set--) {
                if ((set & now) == now) {
                    fates[set] = fateOf(street, set);
                }
            }
            return bestMove(street, now);
        }

        private int fateOf(Street street, int set) {
            if (!street.allows(set) || street.clashesBy(set)) {
                return BARRED;
            }
            return bestMove(street, set) == NONE ? LOSES : WINS;
        }

        private int bestMove(Street street, int set) {
            for (int window = 0; window < street.count; window++) {
                int next = set | 1 << window;
                if (next != set && next >= 0 && next < MOST_SETS && fates[next] == LOSES) {
                    return window;
                }
            }
            return NONE;
        }
    }

    /** Fingers that slip: chances counted in parts of ten to the number of fingers. */
    private static final class Chance {
        static long ofAll(Street street) {
            return power(TENTHS, Integer.bitCount(street.fingers));
        }

        static long toHear(Street street, int window, int v, int t) {
            long parts = 0;
            for (int stay = 0; stay <= street.fingers; stay++) {
                if (isPart(stay, street.fingers) && street.lengthAt(window, stay) == v) {
                    parts += toStay(street.fingers, stay, t);
                }
            }
            return parts;
        }

        static long toBeCalm(Street street, int t) {
            long parts = 0;
            for (int stay = 0; stay <= street.fingers; stay++) {
                if (isPart(stay, street.fingers) && !street.clashesBy(stay)) {
                    parts += toStay(street.fingers, stay, t);
                }
            }
            return parts;
        }

        private static boolean isPart(int some, int all) {
            return (some & ~all) == 0;
        }

        private static long toStay(int fingers, int stay, int t) {
            int stayed = Integer.bitCount(stay);
            return power(TENTHS - t, stayed) * power(t, Integer.bitCount(fingers) - stayed);
        }

        private static long power(int base, int times) {
            long product = 1;
            for (int time = 0; time < times; time++) {
                product *= base;
            }
            return product;
        }
    }
}
