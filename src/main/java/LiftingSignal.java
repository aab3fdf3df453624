import java.util.NoSuchElementException;

/**
 * Lifting wavelets on irregular samples, in integers: each sample is predicted from its neighbours, only the
 * difference is kept, and the neighbours are updated so that the integral of the signal is kept.
 */
public final class LiftingSignal {
    public static final int NONE = -1;

    private static final int SPAN = 0;
    private static final int DYADIC = 1;
    private static final int DETAIL = 2;
    private static final int LEFT = 0;
    private static final int NEAR = 1;
    private static final int LINEAR = 2;

    private static final int LEAST_SAMPLES = 2;
    private static final int MOST_SAMPLES = 48;
    private static final int MOST_STEPS = MOST_SAMPLES - LEAST_SAMPLES;
    private static final int MOST_VALUE = 9999;
    private static final int MOST_LEVEL = 999;
    private static final int MOST_DETAIL = 99999;
    private static final int MOST_THRESHOLD = 9999;
    private static final int MOST_BEST_THRESHOLD = 1000;
    private static final int MOST_ERROR = 99999;
    private static final int SCHEMES = 9;
    private static final int SLOTS = 2;

    private static final int TOO_FEW_PRESENT = 1;
    private static final int NO_STEP = 2;
    private static final int NOT_LIFTABLE = 3;
    private static final int LIFTED_ALREADY = 4;
    private static final int IS_END = 5;
    private static final int NOT_PRESENT = 6;
    private static final int SOME_LIFTED = 7;

    private final Text text = new Text();
    private final Source source = new Source();
    // A text is read into the draft, so that a text with an error leaves the source as it is.
    private final Source draft = new Source();
    private final State now = new State(source);
    // What-if questions are played through on the trial, so that they change nothing.
    private final State trial = new State(source);
    private final State[] slots = {new State(source), new State(source)};
    private final boolean[] isSaved = new boolean[SLOTS];
    private int reasonCode = 0;
    private int causeCode = 0;
    private int refusedSample = NONE;

    public LiftingSignal() {
        source.addSample(0, 0);
        source.addSample(1, 0);
        now.begin();
        now.takeSettings();
    }

    // ---- the text

    public int append(int a, int b, int c, int d, int e) {
        if (!text.hasRoom()) {
            return NONE;
        }
        text.addInt(a);
        text.addInt(b);
        text.addInt(c);
        text.addInt(d);
        text.addInt(e);
        return text.length;
    }

    public int truncate(int length) throws IndexOutOfBoundsException {
        needIndex(length, text.length + 1);
        text.length = length;
        return length;
    }

    public int load() throws IllegalArgumentException {
        boolean isRead = text.readInto(draft);
        text.length = 0;
        if (!isRead) {
            throw new IllegalArgumentException("the text has an error");
        }
        source.copyFrom(draft);
        now.begin();
        now.takeSettings();
        for (int slot = 0; slot < SLOTS; slot++) {
            isSaved[slot] = false;
        }
        return source.count;
    }

    public int errorCode() {
        return text.errorCode;
    }

    public int errorPosition() {
        return text.errorPosition;
    }

    // ---- reports

    public int count(int what) throws IllegalArgumentException {
        switch (what) {
            case 0:
                return source.count;
            case 1:
                return now.presentCount();
            case 2:
                return now.stepCount;
            case 3:
                return now.zeroDetails();
            case 4:
                return now.split;
            case 5:
                return now.predict;
            case 6:
                return now.isKeep ? 1 : 0;
            case 7:
                return source.least;
            case 8:
                return (int) now.weightSum();
            default:
                throw new IllegalArgumentException("what is out of range");
        }
    }

    public long sample(int sample, int what) throws IndexOutOfBoundsException, IllegalArgumentException {
        needIndex(sample, source.count);
        switch (what) {
            case 0:
                return source.position[sample];
            case 1:
                return source.original[sample];
            case 2:
                return now.isPresent(sample) ? 1 : 0;
            case 3:
                return now.isPresent(sample) ? now.value[sample].toLong() : NONE;
            case 4:
                return now.weight[sample];
            case 5:
                return now.stepOf[sample];
            default:
                throw new IllegalArgumentException("what is out of range");
        }
    }

    public int present(int index) throws IndexOutOfBoundsException {
        needIndex(index, now.presentCount());
        return now.presentAt(index);
    }

    public int neighbour(int sample, boolean isRight) throws IndexOutOfBoundsException {
        needIndex(sample, source.count);
        return isRight ? now.rightOf(sample) : now.leftOf(sample);
    }

    public long step(int step, int what) throws IndexOutOfBoundsException, IllegalArgumentException {
        needIndex(step, now.stepCount);
        Step kept = now.steps[step];
        switch (what) {
            case 0:
                return kept.sample;
            case 1:
                return kept.left;
            case 2:
                return kept.right;
            case 3:
                return kept.detail.toLong();
            case 4:
                return kept.weight;
            case 5:
                return kept.share;
            default:
                throw new IllegalArgumentException("what is out of range");
        }
    }

    public long valueAt(int position) throws IndexOutOfBoundsException {
        if (position < source.position[0] || position > source.position[source.count - 1]) {
            throw new IndexOutOfBoundsException("the position is outside of the samples");
        }
        return now.lineAt(position).toLong();
    }

    public long integral() {
        return now.integral.toLong();
    }

    public long drift() {
        return now.driftNow().toLong();
    }

    public long mean(int part) throws IllegalArgumentException {
        needRange(part, 0, 1);
        long weights = now.weightSum();
        long divisor = commonDivisor(weights, now.integral.restOfAmount(weights));
        return part == 0 ? now.integralBy(divisor).toLong() : weights / divisor;
    }

    public double plainMean() {
        return now.valueSum().toDouble() / (double) now.presentCount();
    }

    public long energy() {
        return now.energyOfDetails();
    }

    public int bits() {
        return now.bitsOfDetails();
    }

    public int largest(int index) throws IndexOutOfBoundsException {
        needIndex(index, now.stepCount);
        return now.stepOfRank(index);
    }

    public int next() throws NoSuchElementException {
        int sample = now.chosenSample();
        if (sample == NONE) {
            throw new NoSuchElementException("no sample would be lifted");
        }
        return sample;
    }

    // ---- settings and samples

    public int setSplit(int split) throws IllegalArgumentException {
        needRange(split, SPAN, DETAIL);
        int previous = now.split;
        now.split = split;
        return previous;
    }

    public int setPredict(int predict) throws IllegalArgumentException {
        needRange(predict, LEFT, LINEAR);
        int previous = now.predict;
        now.predict = predict;
        return previous;
    }

    public boolean setUpdate(boolean isKeep) {
        boolean previous = now.isKeep;
        now.isKeep = isKeep;
        return previous;
    }

    public long set(int sample, int value)
            throws IndexOutOfBoundsException, IllegalArgumentException, IllegalStateException {
        needIndex(sample, source.count);
        needRange(value, -MOST_VALUE, MOST_VALUE);
        if (!now.isPresent(sample)) {
            refuse(NOT_PRESENT, LIFTED_ALREADY, sample);
        }
        long previous = now.value[sample].toLong();
        now.changeValue(sample, value);
        return previous;
    }

    public long noise(int seed, int level) throws IllegalArgumentException, IllegalStateException {
        needRange(level, 0, MOST_LEVEL);
        if (now.stepCount > 0) {
            refuse(SOME_LIFTED, 0, NONE);
        }
        now.addNoise(seed, level);
        return now.valueSum().toLong();
    }

    public int reset() {
        int steps = now.stepCount;
        now.begin();
        return steps;
    }

    // ---- steps

    public int forward(int steps) throws IllegalArgumentException, IllegalStateException {
        needRange(steps, 1, MOST_STEPS);
        int done = now.liftChosen(steps);
        if (done == 0) {
            refuse(TOO_FEW_PRESENT, 0, NONE);
        }
        return done;
    }

    public long lift(int sample) throws IndexOutOfBoundsException, IllegalStateException {
        needIndex(sample, source.count);
        if (!now.isPresent(sample)) {
            refuse(NOT_LIFTABLE, LIFTED_ALREADY, sample);
        }
        if (sample == 0 || sample == source.count - 1) {
            refuse(NOT_LIFTABLE, IS_END, sample);
        }
        return now.liftSample(sample);
    }

    public int inverse(int steps) throws IllegalArgumentException, IllegalStateException {
        needRange(steps, 1, MOST_STEPS);
        if (now.stepCount == 0) {
            refuse(NO_STEP, 0, NONE);
        }
        return now.invertLatest(steps);
    }

    // ---- details

    public long setDetail(int step, int detail) throws IndexOutOfBoundsException, IllegalArgumentException {
        needIndex(step, now.stepCount);
        needRange(detail, -MOST_DETAIL, MOST_DETAIL);
        long previous = now.steps[step].detail.toLong();
        now.steps[step].detail.become(detail);
        return previous;
    }

    public int threshold(int threshold, boolean isSoft) throws IllegalArgumentException {
        needRange(threshold, 0, MOST_THRESHOLD);
        now.cutDetails(threshold, isSoft);
        return now.zeroDetails();
    }

    public long quantize(int quantum) throws IllegalArgumentException {
        needRange(quantum, 1, MOST_THRESHOLD);
        return now.quantizeDetails(quantum);
    }

    public long keepLargest(int number) throws IllegalArgumentException {
        needRange(number, 0, MOST_STEPS);
        return now.dropFromRank(number).toLong();
    }

    // ---- what it costs; nothing changes

    public long error(int what) throws IllegalArgumentException {
        needRange(what, 0, 2);
        trial.copyFrom(now);
        trial.invertLatest(MOST_STEPS);
        switch (what) {
            case 0:
                return trial.greatestDifference().toLong();
            case 1:
                return trial.differenceSum().toLong();
            default:
                return trial.differenceCount();
        }
    }

    public long errorWith(int threshold, boolean isSoft) throws IllegalArgumentException {
        needRange(threshold, 0, MOST_THRESHOLD);
        return errorOfCut(threshold, isSoft).toLong();
    }

    public int bestThreshold(int error) throws IllegalArgumentException, NoSuchElementException {
        needRange(error, 0, MOST_ERROR);
        long threshold = MOST_BEST_THRESHOLD;
        // From above an amount up to the next greater one, thresholds cut the same details: so only the greatest
        // threshold and the amounts below it can be the answer.
        for (int tries = 0; tries <= MOST_STEPS && threshold >= 0; tries++) {
            if (errorOfCut((int) threshold, false).isAmountBelow(error + 1L)) {
                return (int) threshold;
            }
            threshold = now.greatestAmountBelow(threshold);
        }
        throw new NoSuchElementException("no threshold keeps the error that small");
    }

    public int bitsBy(int split, int predict) throws IllegalArgumentException {
        needRange(split, SPAN, DETAIL);
        needRange(predict, LEFT, LINEAR);
        beginTrial(split, predict);
        trial.liftChosen(MOST_STEPS);
        return trial.bitsOfDetails();
    }

    public int bestScheme() {
        int best = 0;
        int fewest = 0;
        for (int scheme = 0; scheme < SCHEMES; scheme++) {
            beginTrial(scheme / 3, scheme % 3);
            trial.liftChosen(MOST_STEPS);
            int bits = trial.bitsOfDetails();
            if (scheme == 0 || bits < fewest) {
                best = scheme;
                fewest = bits;
            }
        }
        return best;
    }

    // ---- reasons

    public int reason(int level) throws IllegalArgumentException {
        needRange(level, 0, 1);
        return level == 0 ? reasonCode : causeCode;
    }

    public int reasonSample() {
        return refusedSample;
    }

    // ---- saved states

    public void save(int slot) throws IndexOutOfBoundsException {
        needIndex(slot, SLOTS);
        slots[slot].copyFrom(now);
        isSaved[slot] = true;
    }

    public void restore(int slot) throws IndexOutOfBoundsException, NoSuchElementException {
        needIndex(slot, SLOTS);
        if (!isSaved[slot]) {
            throw new NoSuchElementException("nothing is saved in the slot");
        }
        now.copyFrom(slots[slot]);
    }

    // ---- helpers

    private static void needIndex(int index, int size) {
        if (index < 0 || index >= size) {
            throw new IndexOutOfBoundsException("there is no such index");
        }
    }

    private static void needRange(int number, int low, int high) {
        if (number < low || number > high) {
            throw new IllegalArgumentException("a number is out of range");
        }
    }

    private void refuse(int code, int cause, int sample) {
        reasonCode = code;
        causeCode = cause;
        refusedSample = sample;
        throw new IllegalStateException("the state does not allow it; reason() tells why");
    }

    private Whole errorOfCut(int threshold, boolean isSoft) {
        trial.copyFrom(now);
        trial.cutDetails(threshold, isSoft);
        trial.invertLatest(MOST_STEPS);
        return trial.greatestDifference();
    }

    private void beginTrial(int split, int predict) {
        trial.begin();
        trial.split = split;
        trial.predict = predict;
        trial.isKeep = now.isKeep;
    }

    /** The greatest common divisor of a positive number and of a rest from it, at least 1. */
    private static long commonDivisor(long positive, long rest) {
        long greater = Math.max(positive, 1);
        long lesser = rest;
        for (int rounds = 0; rounds < 1000 && lesser > 0; rounds++) {
            long next = greater % lesser;
            greater = lesser;
            lesser = next;
        }
        return greater;
    }

    /**
     * A whole number of any size: its amount in limbs of 32 bits, the lowest first, and its sign. Values and details
     * can outgrow a long, and so can what lies between numbers that do not; the answers must not suffer from it.
     * Factors and divisors stay below 2 to the power of 30: they are made of weights, positions, and limits of the face.
     */
    private static final class Whole {
        private static final int LIMB_BITS = 32;
        private static final long LIMB_MASK = 0xffffffffL;
        // A step makes the greatest number less than four times as great: 512 calls of 46 steps do not lead beyond.
        private static final int MOST_LIMBS = 1500;
        private static final int MORE_THAN_DOUBLE_BITS = 62;

        private int[] limbs = new int[2];
        // The highest limb in use is not 0; with none in use, the lowest one is 0 all the same, and the sign is not set.
        private int used = 0;
        private boolean isNegative = false;

        void become(long number) {
            isNegative = number < 0;
            long amount = isNegative ? -number : number;
            limbs[0] = (int) amount;
            limbs[1] = (int) (amount >>> LIMB_BITS);
            used = limbs[1] != 0 ? 2 : limbs[0] != 0 ? 1 : 0;
        }

        void copyFrom(Whole other) {
            limbs[0] = other.limbs[0];
            if (other.used > 1) {
                makeRoom(other.used);
                System.arraycopy(other.limbs, 0, limbs, 0, other.used);
            }
            used = other.used;
            isNegative = other.isNegative;
        }

        void dropSign() {
            isNegative = false;
        }

        /** Adds a multiple of another number. */
        void add(Whole other, long factor) {
            if (used <= 1 && other.used <= 1) {
                become(lowest() + other.lowest() * factor);
                return;
            }
            int length = makeRoom(Math.max(used, other.used) + 1);
            long carry = addAmount(other, isNegative == other.isNegative ? factor : -factor, length);
            if (carry < 0) {
                turn();
            }
            trim();
        }

        /** Becomes floor(this * part / whole), for a part that is not negative. */
        void scale(long part, long whole) {
            if (whole <= 0) {
                return;
            }
            if (used <= 1) {
                become(Math.floorDiv(lowest() * part, whole));
                return;
            }
            int length = makeRoom(used + 1);
            // Below zero, rounding down makes the amount greater.
            multiply(part, isNegative ? whole - 1 : 0, length);
            divide(whole);
            trim();
        }

        boolean isZero() {
            return used == 0;
        }

        boolean isBelowZero() {
            return isNegative;
        }

        boolean isAmountBelow(long limit) {
            return used <= 1 && (limbs[0] & LIMB_MASK) < limit;
        }

        int compareAmount(Whole other) {
            if (used != other.used) {
                return used < other.used ? -1 : 1;
            }
            for (int i = used - 1; i >= 0; i--) {
                if (limbs[i] != other.limbs[i]) {
                    return (limbs[i] & LIMB_MASK) < (other.limbs[i] & LIMB_MASK) ? -1 : 1;
                }
            }
            return 0;
        }

        /** The rest when the amount is divided by a number. */
        long restOfAmount(long divisor) {
            long rest = 0;
            for (int i = used - 1; i >= 0 && divisor > 0; i--) {
                rest = (rest << LIMB_BITS | limbs[i] & LIMB_MASK) % divisor;
            }
            return rest;
        }

        int bitsOfAmount() {
            return used == 0 ? 0 : used * LIMB_BITS - Integer.numberOfLeadingZeros(limbs[used - 1]);
        }

        /** The number, if a long can hold it; else what its lowest 64 bits tell. */
        long toLong() {
            return isNegative ? -amountFrom(0) : amountFrom(0);
        }

        /** The double that is nearest to the number. */
        double toDouble() {
            int shift = Math.max(0, bitsOfAmount() - MORE_THAN_DOUBLE_BITS);
            // Bits that are shifted out can still decide how the others are rounded.
            long highest = isAnyBitBelow(shift) ? amountFrom(shift) | 1 : amountFrom(shift);
            double number = (double) (isNegative ? -highest : highest);
            for (int i = 0; i < shift; i++) {
                number *= 2;
            }
            return number;
        }

        private long lowest() {
            return isNegative ? -(limbs[0] & LIMB_MASK) : limbs[0] & LIMB_MASK;
        }

        private long limbAt(int i) {
            return i < used ? limbs[i] & LIMB_MASK : 0;
        }

        /** 64 bits of the amount, from a bit on. */
        private long amountFrom(int bit) {
            int first = bit / LIMB_BITS;
            int within = bit % LIMB_BITS;
            long lower = limbAt(first + 1) << LIMB_BITS | limbAt(first);
            return within == 0 ? lower : lower >>> within | limbAt(first + 2) << 2 * LIMB_BITS - within;
        }

        private boolean isAnyBitBelow(int bit) {
            int whole = bit / LIMB_BITS;
            for (int i = 0; i < whole; i++) {
                if (limbAt(i) != 0) {
                    return true;
                }
            }
            return (limbAt(whole) & (1L << bit % LIMB_BITS) - 1) != 0;
        }

        /** Makes room for some limbs, and tells for how many there is room. */
        private int makeRoom(int length) {
            int possible = Math.min(length, MOST_LIMBS);
            if (possible > limbs.length) {
                int[] more = new int[Math.min(2 * possible, MOST_LIMBS)];
                System.arraycopy(limbs, 0, more, 0, used);
                limbs = more;
            }
            return possible;
        }

        /** Adds a multiple of another amount and tells the carry; it is below 0 if the limbs are a two's complement now. */
        private long addAmount(Whole other, long factor, int length) {
            long carry = 0;
            for (int i = 0; i < length; i++) {
                long own = i < used ? limbs[i] & LIMB_MASK : 0;
                long added = i < other.used ? other.limbs[i] & LIMB_MASK : 0;
                carry += own + added * factor;
                limbs[i] = (int) carry;
                carry >>= LIMB_BITS;
            }
            used = length;
            return carry;
        }

        /** Changes the sign, and the limbs to their two's complement. */
        private void turn() {
            long carry = 1;
            for (int i = 0; i < used; i++) {
                carry += ~limbs[i] & LIMB_MASK;
                limbs[i] = (int) carry;
                carry >>>= LIMB_BITS;
            }
            isNegative = !isNegative;
        }

        private void multiply(long factor, long added, int length) {
            long carry = added;
            for (int i = 0; i < length; i++) {
                carry += i < used ? (limbs[i] & LIMB_MASK) * factor : 0;
                limbs[i] = (int) carry;
                carry >>>= LIMB_BITS;
            }
            used = length;
        }

        private void divide(long divisor) {
            long rest = 0;
            for (int i = used - 1; i >= 0 && divisor > 0; i--) {
                rest = rest << LIMB_BITS | limbs[i] & LIMB_MASK;
                limbs[i] = (int) (rest / divisor);
                rest %= divisor;
            }
        }

        private void trim() {
            while (used > 0 && limbs[used - 1] == 0) {
                used--;
            }
            if (used == 0) {
                isNegative = false;
            }
        }
    }

    /** What a text tells: the samples and the settings. */
    private static final class Source {
        final int[] position = new int[MOST_SAMPLES];
        final int[] original = new int[MOST_SAMPLES];
        int count = 0;
        int split = SPAN;
        int predict = LINEAR;
        boolean isKeep = true;
        int least = LEAST_SAMPLES;

        void clear() {
            count = 0;
            split = SPAN;
            predict = LINEAR;
            isKeep = true;
            least = LEAST_SAMPLES;
        }

        void addSample(int at, int value) {
            if (count < MOST_SAMPLES) {
                position[count] = at;
                original[count] = value;
                count++;
            }
        }

        void copyFrom(Source other) {
            System.arraycopy(other.position, 0, position, 0, MOST_SAMPLES);
            System.arraycopy(other.original, 0, original, 0, MOST_SAMPLES);
            count = other.count;
            split = other.split;
            predict = other.predict;
            isKeep = other.isKeep;
            least = other.least;
        }

        int firstWeight(int sample) {
            int from = sample > 0 ? sample - 1 : 0;
            int to = sample < count - 1 ? sample + 1 : count - 1;
            return position[to] - position[from];
        }
    }

    /** One sample's lifting, with all that its inversion needs. */
    private static final class Step {
        int sample;
        int left;
        int right;
        long leftWeight;
        long rightWeight;
        long weight;
        long share;
        int predict;
        boolean isKeep;
        final Whole detail = new Whole();

        void copyFrom(Step other) {
            sample = other.sample;
            left = other.left;
            right = other.right;
            leftWeight = other.leftWeight;
            rightWeight = other.rightWeight;
            weight = other.weight;
            share = other.share;
            predict = other.predict;
            isKeep = other.isKeep;
            detail.copyFrom(other.detail);
        }

        long leftWeightAfter() {
            return leftWeight + share;
        }

        long rightWeightAfter() {
            return rightWeight + (weight - share);
        }
    }

    /**
     * The samples and the steps as they stand, with the settings that can be changed. The integral is kept instead of
     * the drift: no step and no inversion changes it, and the drift is what it has beyond the present samples.
     */
    private static final class State {
        final Source source;
        final Whole[] value = new Whole[MOST_SAMPLES];
        // A lifted sample's weight stays here: with it, it was lifted and will be present again.
        final long[] weight = new long[MOST_SAMPLES];
        final int[] stepOf = new int[MOST_SAMPLES];
        final Step[] steps = new Step[MOST_STEPS];
        int stepCount = 0;
        final Whole integral = new Whole();
        int split;
        int predict;
        boolean isKeep;
        private final Whole one = new Whole();
        // Each report uses these two again; what it tells holds until the next one.
        private final Whole part = new Whole();
        private final Whole result = new Whole();

        State(Source source) {
            this.source = source;
            for (int step = 0; step < MOST_STEPS; step++) {
                steps[step] = new Step();
            }
            for (int sample = 0; sample < MOST_SAMPLES; sample++) {
                value[sample] = new Whole();
            }
            one.become(1);
        }

        void begin() {
            integral.become(0);
            for (int sample = 0; sample < source.count; sample++) {
                value[sample].become(source.original[sample]);
                weight[sample] = source.firstWeight(sample);
                stepOf[sample] = NONE;
                integral.add(value[sample], weight[sample]);
            }
            stepCount = 0;
        }

        void takeSettings() {
            split = source.split;
            predict = source.predict;
            isKeep = source.isKeep;
        }

        void copyFrom(State other) {
            for (int sample = 0; sample < source.count; sample++) {
                value[sample].copyFrom(other.value[sample]);
            }
            System.arraycopy(other.weight, 0, weight, 0, MOST_SAMPLES);
            System.arraycopy(other.stepOf, 0, stepOf, 0, MOST_SAMPLES);
            for (int step = 0; step < other.stepCount; step++) {
                steps[step].copyFrom(other.steps[step]);
            }
            stepCount = other.stepCount;
            integral.copyFrom(other.integral);
            split = other.split;
            predict = other.predict;
            isKeep = other.isKeep;
        }

        // -- the present samples

        boolean isPresent(int sample) {
            return stepOf[sample] == NONE;
        }

        int presentCount() {
            return source.count - stepCount;
        }

        int presentAt(int index) {
            int place = 0;
            for (int sample = 0; sample < source.count; sample++) {
                if (isPresent(sample)) {
                    if (place == index) {
                        return sample;
                    }
                    place++;
                }
            }
            return NONE;
        }

        int leftOf(int sample) {
            for (int other = sample - 1; other >= 0; other--) {
                if (isPresent(other)) {
                    return other;
                }
            }
            return NONE;
        }

        int rightOf(int sample) {
            for (int other = sample + 1; other < source.count; other++) {
                if (isPresent(other)) {
                    return other;
                }
            }
            return NONE;
        }

        long weightSum() {
            long sum = 0;
            for (int sample = 0; sample < source.count; sample++) {
                if (isPresent(sample)) {
                    sum += weight[sample];
                }
            }
            return sum;
        }

        Whole valueSum() {
            result.become(0);
            for (int sample = 0; sample < source.count; sample++) {
                if (isPresent(sample)) {
                    result.add(value[sample], 1);
                }
            }
            return result;
        }

        Whole driftNow() {
            result.copyFrom(integral);
            for (int sample = 0; sample < source.count; sample++) {
                if (isPresent(sample)) {
                    result.add(value[sample], -weight[sample]);
                }
            }
            return result;
        }

        Whole integralBy(long divisor) {
            result.copyFrom(integral);
            result.scale(1, divisor);
            return result;
        }

        Whole lineAt(int at) {
            int left = 0;
            for (int sample = 1; sample < source.count; sample++) {
                if (isPresent(sample)) {
                    if (at <= source.position[sample]) {
                        predictInto(result, LINEAR, left, at, sample);
                        return result;
                    }
                    left = sample;
                }
            }
            return value[left];
        }

        void changeValue(int sample, int to) {
            integral.add(value[sample], -weight[sample]);
            value[sample].become(to);
            integral.add(value[sample], weight[sample]);
        }

        void addNoise(int seed, int level) {
            int range = 2 * level + 1;
            int random = seed;
            for (int sample = 0; sample < source.count && range > 0; sample++) {
                random = random * 1103515245 + 12345;
                int added = (random >>> 16) % range - level;
                value[sample].add(one, added);
                integral.add(one, weight[sample] * added);
            }
        }

        // -- steps

        /** The sample that is lifted next, NONE if none is. */
        int chosenSample() {
            if (presentCount() <= source.least) {
                return NONE;
            }
            Whole cost = part;
            Whole leastCost = result;
            int best = NONE;
            int left = NONE;
            int middle = NONE;
            for (int right = 0; right < source.count; right++) {
                if (!isPresent(right)) {
                    continue;
                }
                if (left != NONE) {
                    costInto(cost, left, middle, right);
                    if (best == NONE || cost.compareAmount(leastCost) < 0) {
                        best = middle;
                        leastCost.copyFrom(cost);
                    }
                }
                left = middle;
                middle = right;
            }
            return best;
        }

        /** The sample with the least amount of this is lifted first. */
        private void costInto(Whole into, int left, int sample, int right) {
            switch (split) {
                case SPAN:
                    into.become(source.position[right] - source.position[left]);
                    break;
                case DYADIC:
                    into.become(Integer.numberOfTrailingZeros(sample));
                    break;
                default:
                    predictInto(into, predict, left, source.position[sample], right);
                    into.add(value[sample], -1);
                    break;
            }
        }

        private boolean isLeftNear(int left, int at, int right) {
            return at - source.position[left] <= source.position[right] - at;
        }

        /** What a rule of prediction tells for a position between two samples. */
        private void predictInto(Whole into, int rule, int left, int at, int right) {
            if (rule == LEFT || rule == NEAR && isLeftNear(left, at, right)) {
                into.copyFrom(value[left]);
                return;
            }
            into.copyFrom(value[right]);
            if (rule == LINEAR) {
                into.add(value[left], -1);
                into.scale(at - source.position[left], source.position[right] - source.position[left]);
                into.add(value[left], 1);
            }
        }

        /** The part of a sample's weight that its left neighbour gets. */
        private long shareOf(int left, int sample, int right) {
            int at = source.position[sample];
            if (predict == LEFT || predict == NEAR && isLeftNear(left, at, right)) {
                return weight[sample];
            }
            int span = source.position[right] - source.position[left];
            if (predict == NEAR || span <= 0) {
                return 0;
            }
            return weight[sample] * (source.position[right] - at) / span;
        }

        int liftChosen(int most) {
            int done = 0;
            while (done < most) {
                int sample = chosenSample();
                if (sample == NONE) {
                    break;
                }
                liftSample(sample);
                done++;
            }
            return done;
        }

        /** Lifts an inner sample and tells its detail. */
        long liftSample(int sample) {
            int left = leftOf(sample);
            int right = rightOf(sample);
            if (left == NONE || right == NONE || stepCount >= MOST_STEPS) {
                return 0;
            }
            Step step = steps[stepCount];
            step.sample = sample;
            step.left = left;
            step.right = right;
            step.leftWeight = weight[left];
            step.rightWeight = weight[right];
            step.weight = weight[sample];
            step.share = shareOf(left, sample, right);
            step.predict = predict;
            step.isKeep = isKeep;
            predictInto(part, predict, left, source.position[sample], right);
            step.detail.copyFrom(value[sample]);
            step.detail.add(part, -1);
            addGains(step, 1);
            weight[left] = step.leftWeightAfter();
            weight[right] = step.rightWeightAfter();
            stepOf[sample] = stepCount;
            stepCount++;
            return step.detail.toLong();
        }

        int invertLatest(int most) {
            int done = 0;
            while (done < most && stepCount > 0) {
                invertStep(steps[stepCount - 1]);
                stepCount--;
                done++;
            }
            return done;
        }

        private void invertStep(Step step) {
            addGains(step, -1);
            weight[step.left] = step.leftWeight;
            weight[step.right] = step.rightWeight;
            predictInto(value[step.sample], step.predict, step.left, source.position[step.sample], step.right);
            value[step.sample].add(step.detail, 1);
            stepOf[step.sample] = NONE;
        }

        private void addGains(Step step, int times) {
            if (!step.isKeep) {
                return;
            }
            long e = step.leftWeightAfter();
            long f = step.rightWeightAfter();
            part.copyFrom(step.detail);
            part.scale(step.weight * e, e * e + f * f);
            value[step.left].add(part, times);
            part.copyFrom(step.detail);
            part.scale(step.weight * f, e * e + f * f);
            value[step.right].add(part, times);
        }

        // -- details

        int zeroDetails() {
            int zeros = 0;
            for (int step = 0; step < stepCount; step++) {
                if (steps[step].detail.isZero()) {
                    zeros++;
                }
            }
            return zeros;
        }

        long energyOfDetails() {
            long sum = 0;
            for (int step = 0; step < stepCount; step++) {
                long detail = steps[step].detail.toLong();
                sum += steps[step].weight * detail * detail;
            }
            return sum;
        }

        int bitsOfDetails() {
            int sum = 0;
            for (int step = 0; step < stepCount; step++) {
                sum += 1 + steps[step].detail.bitsOfAmount();
            }
            return sum;
        }

        private int rankOf(int step) {
            int rank = 0;
            for (int other = 0; other < stepCount; other++) {
                int compared = steps[other].detail.compareAmount(steps[step].detail);
                if (compared > 0 || compared == 0 && other < step) {
                    rank++;
                }
            }
            return rank;
        }

        int stepOfRank(int rank) {
            for (int step = 0; step < stepCount; step++) {
                if (rankOf(step) == rank) {
                    return step;
                }
            }
            return NONE;
        }

        void cutDetails(int threshold, boolean isSoft) {
            for (int step = 0; step < stepCount; step++) {
                Whole detail = steps[step].detail;
                if (detail.isAmountBelow(threshold)) {
                    detail.become(0);
                } else if (isSoft) {
                    detail.add(one, detail.isBelowZero() ? threshold : -threshold);
                }
            }
        }

        long quantizeDetails(int quantum) {
            long changes = 0;
            for (int step = 0; step < stepCount; step++) {
                Whole detail = steps[step].detail;
                long rest = detail.restOfAmount(quantum);
                long change = 2 * rest > quantum ? quantum - rest : -rest;
                detail.add(one, detail.isBelowZero() ? -change : change);
                changes += Math.abs(change);
            }
            return changes;
        }

        /** Makes the details of a rank and of all behind it 0; tells the greatest amount among them. */
        Whole dropFromRank(int rank) {
            Whole greatest = result;
            greatest.become(0);
            int first = stepOfRank(rank);
            if (first != NONE) {
                greatest.copyFrom(steps[first].detail);
                greatest.dropSign();
            }
            for (int step = 0; step < stepCount && first != NONE; step++) {
                int compared = steps[step].detail.compareAmount(greatest);
                if (compared < 0 || compared == 0 && step >= first) {
                    steps[step].detail.become(0);
                }
            }
            return greatest;
        }

        /** The greatest amount of a detail below a limit, NONE if there is none. */
        long greatestAmountBelow(long limit) {
            long greatest = NONE;
            for (int step = 0; step < stepCount; step++) {
                if (steps[step].detail.isAmountBelow(limit)) {
                    greatest = Math.max(greatest, Math.abs(steps[step].detail.toLong()));
                }
            }
            return greatest;
        }

        // -- differences from the original values, of present samples

        private void differenceInto(Whole into, int sample) {
            into.copyFrom(value[sample]);
            into.add(one, -source.original[sample]);
            into.dropSign();
        }

        Whole greatestDifference() {
            result.become(0);
            for (int sample = 0; sample < source.count; sample++) {
                differenceInto(part, sample);
                if (part.compareAmount(result) > 0) {
                    result.copyFrom(part);
                }
            }
            return result;
        }

        Whole differenceSum() {
            result.become(0);
            for (int sample = 0; sample < source.count; sample++) {
                differenceInto(part, sample);
                result.add(part, 1);
            }
            return result;
        }

        int differenceCount() {
            int differing = 0;
            for (int sample = 0; sample < source.count; sample++) {
                differenceInto(part, sample);
                if (!part.isZero()) {
                    differing++;
                }
            }
            return differing;
        }
    }

    /** The text buffer, and the reading of the text token by token. */
    private static final class Text {
        private static final int MOST_BYTES = 700;
        private static final int BYTES_AT_ONCE = 20;
        private static final int MOST_DIGITS = 4;

        private static final int CANNOT_STAND = 1;
        private static final int OUT_OF_RANGE = 2;
        private static final int REPEATED = 3;
        private static final int TOO_MANY = 4;

        private static final int END = 0;
        private static final int WORD = 1;
        private static final int NUMBER = 2;
        private static final int SEMICOLON = 3;
        private static final int MINUS = 4;
        private static final int WRONG = 5;

        private static final int SPLIT_SETTING = 0;
        private static final int PREDICT_SETTING = 1;
        private static final int UPDATE_SETTING = 2;
        private static final int LEAST_SETTING = 3;
        private static final int SETTINGS = 4;

        final byte[] bytes = new byte[MOST_BYTES];
        int length = 0;
        int errorCode = 0;
        int errorPosition = NONE;
        // The token that is looked at: its kind, its bytes, and what it tells if it is a number.
        private int kind = END;
        private int start = 0;
        private int end = 0;
        private int number = 0;

        boolean hasRoom() {
            return length + BYTES_AT_ONCE <= MOST_BYTES;
        }

        void addInt(int four) {
            for (int shift = 24; shift >= 0 && length < MOST_BYTES; shift -= 8) {
                bytes[length] = (byte) (four >> shift);
                length++;
            }
        }

        /** Reads the whole text; false if it has an error, which is kept then. */
        boolean readInto(Source into) {
            errorCode = 0;
            errorPosition = NONE;
            end = 0;
            into.clear();
            pass();
            return readSettings(into) && readSamples(into);
        }

        private boolean readSettings(Source into) {
            int seen = 0;
            for (int done = 0; done <= SETTINGS; done++) {
                int setting = settingHere();
                if (setting == NONE) {
                    return true;
                }
                if ((seen >> setting & 1) != 0) {
                    return isWrong(REPEATED);
                }
                seen |= 1 << setting;
                pass();
                if (!readSetting(setting, into) || !passSemicolon()) {
                    return false;
                }
            }
            return true;
        }

        private int settingHere() {
            if (isWord("split")) {
                return SPLIT_SETTING;
            }
            if (isWord("predict")) {
                return PREDICT_SETTING;
            }
            if (isWord("update")) {
                return UPDATE_SETTING;
            }
            return isWord("least") ? LEAST_SETTING : NONE;
        }

        private boolean readSetting(int setting, Source into) {
            switch (setting) {
                case SPLIT_SETTING:
                    into.split = isWord("span") ? SPAN : isWord("dyadic") ? DYADIC : isWord("detail") ? DETAIL : NONE;
                    return into.split == NONE ? isWrong(CANNOT_STAND) : pass();
                case PREDICT_SETTING:
                    into.predict = isWord("left") ? LEFT : isWord("near") ? NEAR : isWord("linear") ? LINEAR : NONE;
                    return into.predict == NONE ? isWrong(CANNOT_STAND) : pass();
                case UPDATE_SETTING:
                    into.isKeep = isWord("keep");
                    return into.isKeep || isWord("none") ? pass() : isWrong(CANNOT_STAND);
                default:
                    return readLeast(into);
            }
        }

        private boolean readLeast(Source into) {
            if (kind != NUMBER) {
                return isWrong(CANNOT_STAND);
            }
            if (number < LEAST_SAMPLES || number > MOST_SAMPLES) {
                return isWrong(OUT_OF_RANGE);
            }
            into.least = number;
            return pass();
        }

        private boolean readSamples(Source into) {
            for (int done = 0; done <= MOST_SAMPLES; done++) {
                if (kind == END && done >= LEAST_SAMPLES) {
                    return true;
                }
                if (!isWord("at")) {
                    return isWrong(CANNOT_STAND);
                }
                if (done == MOST_SAMPLES) {
                    return isWrong(TOO_MANY);
                }
                pass();
                if (!readSample(into) || !passSemicolon()) {
                    return false;
                }
            }
            return true;
        }

        private boolean readSample(Source into) {
            if (kind != NUMBER) {
                return isWrong(CANNOT_STAND);
            }
            int at = number;
            if (into.count > 0 && at <= into.position[into.count - 1]) {
                return isWrong(OUT_OF_RANGE);
            }
            pass();
            boolean isNegative = kind == MINUS;
            if (isNegative) {
                pass();
            }
            if (kind != NUMBER) {
                return isWrong(CANNOT_STAND);
            }
            into.addSample(at, isNegative ? -number : number);
            return pass();
        }

        private boolean passSemicolon() {
            return kind == SEMICOLON ? pass() : isWrong(CANNOT_STAND);
        }

        private boolean isWrong(int code) {
            errorCode = code;
            errorPosition = start;
            return false;
        }

        // -- tokens

        private boolean isWord(String word) {
            if (kind != WORD || end - start != word.length()) {
                return false;
            }
            for (int i = 0; i < word.length(); i++) {
                if (bytes[start + i] != word.charAt(i)) {
                    return false;
                }
            }
            return true;
        }

        /** Goes on to the next token; true, as this is never an error. */
        private boolean pass() {
            start = end;
            while (start < length && (bytes[start] == ' ' || bytes[start] == '\n')) {
                start++;
            }
            end = start;
            if (start >= length) {
                kind = END;
            } else if (isLetter(bytes[start])) {
                kind = WORD;
                passLetters();
            } else if (isDigit(bytes[start])) {
                passDigits();
                kind = end - start <= MOST_DIGITS ? NUMBER : WRONG;
            } else {
                kind = bytes[start] == ';' ? SEMICOLON : bytes[start] == '-' ? MINUS : WRONG;
                end++;
            }
            return true;
        }

        private void passLetters() {
            while (end < length && isLetter(bytes[end])) {
                end++;
            }
        }

        private void passDigits() {
            number = 0;
            while (end < length && isDigit(bytes[end])) {
                number = number * 10 + (bytes[end] - '0');
                end++;
            }
        }

        private static boolean isLetter(byte b) {
            return b >= 'a' && b <= 'z';
        }

        private static boolean isDigit(byte b) {
            return b >= '0' && b <= '9';
        }
    }
}
