import java.util.NoSuchElementException;

/**
 * Lifting wavelets on irregular samples, in integers: each sample is predicted from its neighbours, only the
 * difference is kept, and the neighbours are updated so that the integral of the signal is kept.
 */
public final class LiftingSignal {
    public static final int NONE = -1;

    private static final int SPAN = 0;
    private static final int DYADIC = 1;
    private static final int DETAIL = 2;
    private static final int LEFT = 0;
    private static final int NEAR = 1;
    private static final int LINEAR = 2;

    private static final int LEAST_SAMPLES = 2;
    private static final int MOST_SAMPLES = 48;
    private static final int MOST_STEPS = MOST_SAMPLES - LEAST_SAMPLES;
    private static final int MOST_VALUE = 9999;
    private static final int MOST_LEVEL = 999;
    private static final int MOST_DETAIL = 99999;
    private static final int MOST_THRESHOLD = 9999;
    private static final int MOST_BEST_THRESHOLD = 1000;
    private static final int MOST_ERROR = 99999;
    private static final int SCHEMES = 9;
    private static final int SLOTS = 2;

    private static final int TOO_FEW_PRESENT = 1;
    private static final int NO_STEP = 2;
    private static final int NOT_LIFTABLE = 3;
    private static final int LIFTED_ALREADY = 4;
    private static final int IS_END = 5;
    private static final int NOT_PRESENT = 6;
    private static final int SOME_LIFTED = 7;

    private final Text text = new Text();
    private final Source source = new Source();
    // A text is read into the draft, so that a text with an error leaves the source as it is.
    private final Source draft = new Source();
    private final State now = new State(source);
    // What-if questions are played through on the trial, so that they change nothing.
    private final State trial = new State(source);
    private final State[] slots = {new State(source), new State(source)};
    private final boolean[] isSaved = new boolean[SLOTS];
    private int reasonCode = 0;
    private int causeCode = 0;
    private int refusedSample = NONE;

    public LiftingSignal() {
        source.addSample(0, 0);
        source.addSample(1, 0);
        now.begin();
        now.takeSettings();
    }

    // ---- the text

    public int append(int a, int b, int c, int d, int e) {
        if (!text.hasRoom()) {
            return NONE;
        }
        text.addInt(a);
        text.addInt(b);
        text.addInt(c);
        text.addInt(d);
        text.addInt(e);
        return text.length;
    }

    public int truncate(int length) throws IndexOutOfBoundsException {
        needIndex(length, text.length + 1);
        text.length = length;
        return length;
    }

    public int load() throws IllegalArgumentException {
        boolean isRead = text.readInto(draft);
        text.length = 0;
        if (!isRead) {
            throw new IllegalArgumentException("the text has an error");
        }
        source.copyFrom(draft);
        now.begin();
        now.takeSettings();
        for (int slot = 0; slot < SLOTS; slot++) {
            isSaved[slot] = false;
        }
        return source.count;
    }

    public int errorCode() {
        return text.errorCode;
    }

    public int errorPosition() {
        return text.errorPosition;
    }

    // ---- reports

    public int count(int what) throws IllegalArgumentException {
        switch (what) {
            case 0:
                return source.count;
            case 1:
                return now.presentCount();
            case 2:
                return now.stepCount;
            case 3:
                return now.zeroDetails();
            case 4:
                return now.split;
            case 5:
                return now.predict;
            case 6:
                return now.isKeep ? 1 : 0;
            case 7:
                return source.least;
            case 8:
                return (int) now.weightSum();
            default:
                throw new IllegalArgumentException("what is out of range");
        }
    }

    public long sample(int sample, int what) throws IndexOutOfBoundsException, IllegalArgumentException {
        needIndex(sample, source.count);
        switch (what) {
            case 0:
                return source.position[sample];
            case 1:
                return source.original[sample];
            case 2:
                return now.isPresent(sample) ? 1 : 0;
            case 3:
                return now.isPresent(sample) ? now.value[sample] : NONE;
            case 4:
                return now.weight[sample];
            case 5:
                return now.stepOf[sample];
            default:
                throw new IllegalArgumentException("what is out of range");
        }
    }

    public int present(int index) throws IndexOutOfBoundsException {
        needIndex(index, now.presentCount());
        return now.presentAt(index);
    }

    public int neighbour(int sample, boolean isRight) throws IndexOutOfBoundsException {
        needIndex(sample, source.count);
        return isRight ? now.rightOf(sample) : now.leftOf(sample);
    }

    public long step(int step, int what) throws IndexOutOfBoundsException, IllegalArgumentException {
        needIndex(step, now.stepCount);
        Step kept = now.steps[step];
        switch (what) {
            case 0:
                return kept.sample;
            case 1:
                return kept.left;
            case 2:
                return kept.right;
            case 3:
                return kept.detail;
            case 4:
                return kept.weight;
            case 5:
                return kept.share;
            default:
                throw new IllegalArgumentException("what is out of range");
        }
    }

    public long valueAt(int position) throws IndexOutOfBoundsException {
        if (position < source.position[0] || position > source.position[source.count - 1]) {
            throw new IndexOutOfBoundsException("the position is outside of the samples");
        }
        return now.lineAt(position);
    }

    public long integral() {
        return now.integralNow();
    }

    public long drift() {
        return now.drift;
    }

    public long mean(int part) throws IllegalArgumentException {
        needRange(part, 0, 1);
        long integral = now.integralNow();
        long weights = now.weightSum();
        long divisor = commonDivisor(integral, weights);
        return (part == 0 ? integral : weights) / divisor;
    }

    public double plainMean() {
        return (double) now.valueSum() / (double) now.presentCount();
    }

    public long energy() {
        return now.energyOfDetails();
    }

    public int bits() {
        return now.bitsOfDetails();
    }

    public int largest(int index) throws IndexOutOfBoundsException {
        needIndex(index, now.stepCount);
        return now.stepOfRank(index);
    }

    public int next() throws NoSuchElementException {
        int sample = now.chosenSample();
        if (sample == NONE) {
            throw new NoSuchElementException("no sample would be lifted");
        }
        return sample;
    }

    // ---- settings and samples

    public int setSplit(int split) throws IllegalArgumentException {
        needRange(split, SPAN, DETAIL);
        int previous = now.split;
        now.split = split;
        return previous;
    }

    public int setPredict(int predict) throws IllegalArgumentException {
        needRange(predict, LEFT, LINEAR);
        int previous = now.predict;
        now.predict = predict;
        return previous;
    }

    public boolean setUpdate(boolean isKeep) {
        boolean previous = now.isKeep;
        now.isKeep = isKeep;
        return previous;
    }

    public long set(int sample, int value)
            throws IndexOutOfBoundsException, IllegalArgumentException, IllegalStateException {
        needIndex(sample, source.count);
        needRange(value, -MOST_VALUE, MOST_VALUE);
        if (!now.isPresent(sample)) {
            refuse(NOT_PRESENT, LIFTED_ALREADY, sample);
        }
        long previous = now.value[sample];
        now.value[sample] = value;
        return previous;
    }

    public long noise(int seed, int level) throws IllegalArgumentException, IllegalStateException {
        needRange(level, 0, MOST_LEVEL);
        if (now.stepCount > 0) {
            refuse(SOME_LIFTED, 0, NONE);
        }
        now.addNoise(seed, level);
        return now.valueSum();
    }

    public int reset() {
        int steps = now.stepCount;
        now.begin();
        return steps;
    }

    // ---- steps

    public int forward(int steps) throws IllegalArgumentException, IllegalStateException {
        needRange(steps, 1, MOST_STEPS);
        int done = now.liftChosen(steps);
        if (done == 0) {
            refuse(TOO_FEW_PRESENT, 0, NONE);
        }
        return done;
    }

    public long lift(int sample) throws IndexOutOfBoundsException, IllegalStateException {
        needIndex(sample, source.count);
        if (!now.isPresent(sample)) {
            refuse(NOT_LIFTABLE, LIFTED_ALREADY, sample);
        }
        if (sample == 0 || sample == source.count - 1) {
            refuse(NOT_LIFTABLE, IS_END, sample);
        }
        return now.liftSample(sample);
    }

    public int inverse(int steps) throws IllegalArgumentException, IllegalStateException {
        needRange(steps, 1, MOST_STEPS);
        if (now.stepCount == 0) {
            refuse(NO_STEP, 0, NONE);
        }
        return now.invertLatest(steps);
    }

    // ---- details

    public long setDetail(int step, int detail) throws IndexOutOfBoundsException, IllegalArgumentException {
        needIndex(step, now.stepCount);
        needRange(detail, -MOST_DETAIL, MOST_DETAIL);
        long previous = now.steps[step].detail;
        now.steps[step].detail = detail;
        return previous;
    }

    public int threshold(int threshold, boolean isSoft) throws IllegalArgumentException {
        needRange(threshold, 0, MOST_THRESHOLD);
        now.cutDetails(threshold, isSoft);
        return now.zeroDetails();
    }

    public long quantize(int quantum) throws IllegalArgumentException {
        needRange(quantum, 1, MOST_THRESHOLD);
        return now.quantizeDetails(quantum);
    }

    public long keepLargest(int number) throws IllegalArgumentException {
        needRange(number, 0, MOST_STEPS);
        return now.dropFromRank(number);
    }

    // ---- what it costs; nothing changes

    public long error(int what) throws IllegalArgumentException {
        needRange(what, 0, 2);
        trial.copyFrom(now);
        trial.invertLatest(MOST_STEPS);
        switch (what) {
            case 0:
                return trial.greatestDifference();
            case 1:
                return trial.differenceSum();
            default:
                return trial.differenceCount();
        }
    }

    public long errorWith(int threshold, boolean isSoft) throws IllegalArgumentException {
        needRange(threshold, 0, MOST_THRESHOLD);
        return errorOfCut(threshold, isSoft);
    }

    public int bestThreshold(int error) throws IllegalArgumentException, NoSuchElementException {
        needRange(error, 0, MOST_ERROR);
        long threshold = MOST_BEST_THRESHOLD;
        // From above an amount up to the next greater one, thresholds cut the same details: so only the greatest
        // threshold and the amounts below it can be the answer.
        for (int tries = 0; tries <= MOST_STEPS && threshold >= 0; tries++) {
            if (errorOfCut((int) threshold, false) <= error) {
                return (int) threshold;
            }
            threshold = now.greatestAmountBelow(threshold);
        }
        throw new NoSuchElementException("no threshold keeps the error that small");
    }

    public int bitsBy(int split, int predict) throws IllegalArgumentException {
        needRange(split, SPAN, DETAIL);
        needRange(predict, LEFT, LINEAR);
        return bitsOfScheme(split, predict);
    }

    public int bestScheme() {
        int best = 0;
        int fewest = bitsOfScheme(SPAN, LEFT);
        for (int scheme = 1; scheme < SCHEMES; scheme++) {
            int bits = bitsOfScheme(scheme / 3, scheme % 3);
            if (bits < fewest) {
                best = scheme;
                fewest = bits;
            }
        }
        return best;
    }

    // ---- reasons

    public int reason(int level) throws IllegalArgumentException {
        needRange(level, 0, 1);
        return level == 0 ? reasonCode : causeCode;
    }

    public int reasonSample() {
        return refusedSample;
    }

    // ---- saved states

    public void save(int slot) throws IndexOutOfBoundsException {
        needIndex(slot, SLOTS);
        slots[slot].copyFrom(now);
        isSaved[slot] = true;
    }

    public void restore(int slot) throws IndexOutOfBoundsException, NoSuchElementException {
        needIndex(slot, SLOTS);
        if (!isSaved[slot]) {
            throw new NoSuchElementException("nothing is saved in the slot");
        }
        now.copyFrom(slots[slot]);
    }

    // ---- helpers

    private static void needIndex(int index, int size) {
        if (index < 0 || index >= size) {
            throw new IndexOutOfBoundsException("there is no such index");
        }
    }

    private static void needRange(int number, int low, int high) {
        if (number < low || number > high) {
            throw new IllegalArgumentException("a number is out of range");
        }
    }

    private void refuse(int code, int cause, int sample) {
        reasonCode = code;
        causeCode = cause;
        refusedSample = sample;
        throw new IllegalStateException("the state does not allow it; reason() tells why");
    }

    private long errorOfCut(int threshold, boolean isSoft) {
        trial.copyFrom(now);
        trial.cutDetails(threshold, isSoft);
        trial.invertLatest(MOST_STEPS);
        return trial.greatestDifference();
    }

    private int bitsOfScheme(int split, int predict) {
        trial.begin();
        trial.split = split;
        trial.predict = predict;
        trial.isKeep = now.isKeep;
        trial.liftChosen(MOST_STEPS);
        return trial.bitsOfDetails();
    }

    /** The greatest common divisor with a positive number, at least 1; 1 if that number is not positive. */
    private static long commonDivisor(long number, long positive) {
        if (positive <= 0) {
            return 1;
        }
        long greater = positive;
        long lesser = Math.floorMod(number, positive);
        for (int rounds = 0; rounds < 1000 && lesser > 0; rounds++) {
            long rest = greater % lesser;
            greater = lesser;
            lesser = rest;
        }
        return greater;
    }

    /** floor(number * part / whole); number is split first, so that no product grows beyond a long on the way. */
    private static long scaled(long number, long part, long whole) {
        if (whole <= 0) {
            return 0;
        }
        return Math.floorDiv(number, whole) * part + Math.floorDiv(Math.floorMod(number, whole) * part, whole);
    }

    /** What a text tells: the samples and the settings. */
    private static final class Source {
        final int[] position = new int[MOST_SAMPLES];
        final int[] original = new int[MOST_SAMPLES];
        int count = 0;
        int split = SPAN;
        int predict = LINEAR;
        boolean isKeep = true;
        int least = LEAST_SAMPLES;

        void clear() {
            count = 0;
            split = SPAN;
            predict = LINEAR;
            isKeep = true;
            least = LEAST_SAMPLES;
        }

        void addSample(int at, int value) {
            if (count < MOST_SAMPLES) {
                position[count] = at;
                original[count] = value;
                count++;
            }
        }

        void copyFrom(Source other) {
            System.arraycopy(other.position, 0, position, 0, MOST_SAMPLES);
            System.arraycopy(other.original, 0, original, 0, MOST_SAMPLES);
            count = other.count;
            split = other.split;
            predict = other.predict;
            isKeep = other.isKeep;
            least = other.least;
        }

        int firstWeight(int sample) {
            int from = sample > 0 ? sample - 1 : 0;
            int to = sample < count - 1 ? sample + 1 : count - 1;
            return position[to] - position[from];
        }
    }

    /** One sample's lifting, with all that its inversion needs. */
    private static final class Step {
        int sample;
        int left;
        int right;
        long leftWeight;
        long rightWeight;
        long weight;
        long share;
        int predict;
        boolean isKeep;
        long detail;

        void copyFrom(Step other) {
            sample = other.sample;
            left = other.left;
            right = other.right;
            leftWeight = other.leftWeight;
            rightWeight = other.rightWeight;
            weight = other.weight;
            share = other.share;
            predict = other.predict;
            isKeep = other.isKeep;
            detail = other.detail;
        }

        long leftWeightAfter() {
            return leftWeight + share;
        }

        long rightWeightAfter() {
            return rightWeight + (weight - share);
        }

        long leftGain() {
            return gain(leftWeightAfter());
        }

        long rightGain() {
            return gain(rightWeightAfter());
        }

        private long gain(long ownWeight) {
            if (!isKeep) {
                return 0;
            }
            long e = leftWeightAfter();
            long f = rightWeightAfter();
            return scaled(detail, weight * ownWeight, e * e + f * f);
        }

        /** Moves the amount of the detail toward 0, or makes it 0. */
        void cut(int threshold, boolean isSoft) {
            if (Math.abs(detail) < threshold) {
                detail = 0;
            } else if (isSoft) {
                detail = detail < 0 ? detail + threshold : detail - threshold;
            }
        }
    }

    /** The samples and the steps as they stand, with the drift and the settings that can be changed. */
    private static final class State {
        private static final int BITS_OF_LONG = 64;

        final Source source;
        final long[] value = new long[MOST_SAMPLES];
        // A lifted sample's weight stays here: with it, it was lifted and will be present again.
        final long[] weight = new long[MOST_SAMPLES];
        final int[] stepOf = new int[MOST_SAMPLES];
        final Step[] steps = new Step[MOST_STEPS];
        int stepCount = 0;
        long drift = 0;
        int split;
        int predict;
        boolean isKeep;

        State(Source source) {
            this.source = source;
            for (int step = 0; step < MOST_STEPS; step++) {
                steps[step] = new Step();
            }
        }

        void begin() {
            for (int sample = 0; sample < source.count; sample++) {
                value[sample] = source.original[sample];
                weight[sample] = source.firstWeight(sample);
                stepOf[sample] = NONE;
            }
            stepCount = 0;
            drift = 0;
        }

        void takeSettings() {
            split = source.split;
            predict = source.predict;
            isKeep = source.isKeep;
        }

        void copyFrom(State other) {
            System.arraycopy(other.value, 0, value, 0, MOST_SAMPLES);
            System.arraycopy(other.weight, 0, weight, 0, MOST_SAMPLES);
            System.arraycopy(other.stepOf, 0, stepOf, 0, MOST_SAMPLES);
            for (int step = 0; step < other.stepCount; step++) {
                steps[step].copyFrom(other.steps[step]);
            }
            stepCount = other.stepCount;
            drift = other.drift;
            split = other.split;
            predict = other.predict;
            isKeep = other.isKeep;
        }

        // -- the present samples

        boolean isPresent(int sample) {
            return stepOf[sample] == NONE;
        }

        int presentCount() {
            return source.count - stepCount;
        }

        int presentAt(int index) {
            int place = 0;
            for (int sample = 0; sample < source.count; sample++) {
                if (isPresent(sample)) {
                    if (place == index) {
                        return sample;
                    }
                    place++;
                }
            }
            return NONE;
        }

        int leftOf(int sample) {
            for (int other = sample - 1; other >= 0; other--) {
                if (isPresent(other)) {
                    return other;
                }
            }
            return NONE;
        }

        int rightOf(int sample) {
            for (int other = sample + 1; other < source.count; other++) {
                if (isPresent(other)) {
                    return other;
                }
            }
            return NONE;
        }

        long weightSum() {
            long sum = 0;
            for (int sample = 0; sample < source.count; sample++) {
                if (isPresent(sample)) {
                    sum += weight[sample];
                }
            }
            return sum;
        }

        long valueSum() {
            long sum = 0;
            for (int sample = 0; sample < source.count; sample++) {
                if (isPresent(sample)) {
                    sum += value[sample];
                }
            }
            return sum;
        }

        long integralNow() {
            long sum = drift;
            for (int sample = 0; sample < source.count; sample++) {
                if (isPresent(sample)) {
                    sum += weight[sample] * value[sample];
                }
            }
            return sum;
        }

        long lineAt(int at) {
            int left = 0;
            for (int sample = 1; sample < source.count; sample++) {
                if (isPresent(sample)) {
                    if (at <= source.position[sample]) {
                        return predicted(LINEAR, left, at, sample);
                    }
                    left = sample;
                }
            }
            return value[left];
        }

        void addNoise(int seed, int level) {
            int range = 2 * level + 1;
            int random = seed;
            for (int sample = 0; sample < source.count && range > 0; sample++) {
                random = random * 1103515245 + 12345;
                value[sample] += (random >>> 16) % range - level;
            }
        }

        // -- steps

        /** The sample that is lifted next, NONE if none is. */
        int chosenSample() {
            if (presentCount() <= source.least) {
                return NONE;
            }
            int best = NONE;
            long leastCost = 0;
            int left = NONE;
            int middle = NONE;
            for (int right = 0; right < source.count; right++) {
                if (!isPresent(right)) {
                    continue;
                }
                if (left != NONE) {
                    long cost = cost(left, middle, right);
                    if (best == NONE || cost < leastCost) {
                        best = middle;
                        leastCost = cost;
                    }
                }
                left = middle;
                middle = right;
            }
            return best;
        }

        private long cost(int left, int sample, int right) {
            switch (split) {
                case SPAN:
                    return source.position[right] - source.position[left];
                case DYADIC:
                    return Integer.numberOfTrailingZeros(sample);
                default:
                    return Math.abs(value[sample] - predicted(predict, left, source.position[sample], right));
            }
        }

        private boolean isLeftNear(int left, int at, int right) {
            return at - source.position[left] <= source.position[right] - at;
        }

        /** What a rule of prediction tells for a position between two samples. */
        private long predicted(int rule, int left, int at, int right) {
            if (rule == LEFT || rule == NEAR && isLeftNear(left, at, right)) {
                return value[left];
            }
            if (rule == NEAR) {
                return value[right];
            }
            int way = at - source.position[left];
            int span = source.position[right] - source.position[left];
            return value[left] + scaled(value[right] - value[left], way, span);
        }

        /** The part of a sample's weight that its left neighbour gets. */
        private long shareOf(int left, int sample, int right) {
            int at = source.position[sample];
            if (predict == LEFT || predict == NEAR && isLeftNear(left, at, right)) {
                return weight[sample];
            }
            if (predict == NEAR) {
                return 0;
            }
            int way = source.position[right] - at;
            int span = source.position[right] - source.position[left];
            return scaled(weight[sample], way, span);
        }

        int liftChosen(int most) {
            int done = 0;
            while (done < most) {
                int sample = chosenSample();
                if (sample == NONE) {
                    break;
                }
                liftSample(sample);
                done++;
            }
            return done;
        }

        /** Lifts an inner sample and tells its detail. */
        long liftSample(int sample) {
            int left = leftOf(sample);
            int right = rightOf(sample);
            if (left == NONE || right == NONE || stepCount >= MOST_STEPS) {
                return 0;
            }
            Step step = steps[stepCount];
            step.sample = sample;
            step.left = left;
            step.right = right;
            step.leftWeight = weight[left];
            step.rightWeight = weight[right];
            step.weight = weight[sample];
            step.share = shareOf(left, sample, right);
            step.predict = predict;
            step.isKeep = isKeep;
            step.detail = value[sample] - predicted(predict, left, source.position[sample], right);
            drift += sumBefore(step);
            value[left] += step.leftGain();
            value[right] += step.rightGain();
            weight[left] = step.leftWeightAfter();
            weight[right] = step.rightWeightAfter();
            drift -= sumAfter(step);
            stepOf[sample] = stepCount;
            stepCount++;
            return step.detail;
        }

        int invertLatest(int most) {
            int done = 0;
            while (done < most && stepCount > 0) {
                invertStep(steps[stepCount - 1]);
                stepCount--;
                done++;
            }
            return done;
        }

        private void invertStep(Step step) {
            int left = step.left;
            int right = step.right;
            drift += sumAfter(step);
            value[left] -= step.leftGain();
            value[right] -= step.rightGain();
            weight[left] = step.leftWeight;
            weight[right] = step.rightWeight;
            value[step.sample] = predicted(step.predict, left, source.position[step.sample], right) + step.detail;
            stepOf[step.sample] = NONE;
            drift -= sumBefore(step);
        }

        /** What the sample and its neighbours give to the integral while the sample is present. */
        private long sumBefore(Step step) {
            return step.leftWeight * value[step.left] + step.rightWeight * value[step.right]
                    + step.weight * value[step.sample];
        }

        /** What the neighbours give to the integral while the sample is lifted. */
        private long sumAfter(Step step) {
            return step.leftWeightAfter() * value[step.left] + step.rightWeightAfter() * value[step.right];
        }

        // -- details

        private long amount(int step) {
            return Math.abs(steps[step].detail);
        }

        int zeroDetails() {
            int zeros = 0;
            for (int step = 0; step < stepCount; step++) {
                if (steps[step].detail == 0) {
                    zeros++;
                }
            }
            return zeros;
        }

        long energyOfDetails() {
            long sum = 0;
            for (int step = 0; step < stepCount; step++) {
                sum += steps[step].weight * steps[step].detail * steps[step].detail;
            }
            return sum;
        }

        int bitsOfDetails() {
            int sum = 0;
            for (int step = 0; step < stepCount; step++) {
                sum += 1 + BITS_OF_LONG - Long.numberOfLeadingZeros(amount(step));
            }
            return sum;
        }

        private int rankOf(int step) {
            long own = amount(step);
            int rank = 0;
            for (int other = 0; other < stepCount; other++) {
                long amount = amount(other);
                if (amount > own || amount == own && other < step) {
                    rank++;
                }
            }
            return rank;
        }

        int stepOfRank(int rank) {
            for (int step = 0; step < stepCount; step++) {
                if (rankOf(step) == rank) {
                    return step;
                }
            }
            return NONE;
        }

        void cutDetails(int threshold, boolean isSoft) {
            for (int step = 0; step < stepCount; step++) {
                steps[step].cut(threshold, isSoft);
            }
        }

        long quantizeDetails(int quantum) {
            long changes = 0;
            for (int step = 0; step < stepCount && quantum > 0; step++) {
                long amount = amount(step);
                long rest = amount % quantum;
                long change = 2 * rest > quantum ? quantum - rest : -rest;
                steps[step].detail += steps[step].detail < 0 ? -change : change;
                changes += Math.abs(change);
            }
            return changes;
        }

        /** Makes the details of a rank and of all behind it 0; tells the greatest amount among them. */
        long dropFromRank(int rank) {
            int first = stepOfRank(rank);
            if (first == NONE) {
                return 0;
            }
            long greatest = amount(first);
            for (int step = 0; step < stepCount; step++) {
                long amount = amount(step);
                if (amount < greatest || amount == greatest && step >= first) {
                    steps[step].detail = 0;
                }
            }
            return greatest;
        }

        /** The greatest amount of a detail below a limit, NONE if there is none. */
        long greatestAmountBelow(long limit) {
            long greatest = NONE;
            for (int step = 0; step < stepCount; step++) {
                long amount = amount(step);
                if (amount < limit && amount > greatest) {
                    greatest = amount;
                }
            }
            return greatest;
        }

        // -- differences from the original values, of present samples

        private long difference(int sample) {
            return Math.abs(value[sample] - source.original[sample]);
        }

        long greatestDifference() {
            long greatest = 0;
            for (int sample = 0; sample < source.count; sample++) {
                greatest = Math.max(greatest, difference(sample));
            }
            return greatest;
        }

        long differenceSum() {
            long sum = 0;
            for (int sample = 0; sample < source.count; sample++) {
                sum += difference(sample);
            }
            return sum;
        }

        int differenceCount() {
            int differing = 0;
            for (int sample = 0; sample < source.count; sample++) {
                if (difference(sample) != 0) {
                    differing++;
                }
            }
            return differing;
        }
    }

    /** The text buffer, and the reading of the text token by token. */
    private static final class Text {
        private static final int MOST_BYTES = 700;
        private static final int BYTES_AT_ONCE = 20;
        private static final int MOST_DIGITS = 4;

        private static final int CANNOT_STAND = 1;
        private static final int OUT_OF_RANGE = 2;
        private static final int REPEATED = 3;
        private static final int TOO_MANY = 4;

        private static final int END = 0;
        private static final int WORD = 1;
        private static final int NUMBER = 2;
        private static final int SEMICOLON = 3;
        private static final int MINUS = 4;
        private static final int WRONG = 5;

        private static final int SPLIT_SETTING = 0;
        private static final int PREDICT_SETTING = 1;
        private static final int UPDATE_SETTING = 2;
        private static final int LEAST_SETTING = 3;
        private static final int SETTINGS = 4;

        final byte[] bytes = new byte[MOST_BYTES];
        int length = 0;
        int errorCode = 0;
        int errorPosition = NONE;
        // The token that is looked at: its kind, its bytes, and what it tells if it is a number.
        private int kind = END;
        private int start = 0;
        private int end = 0;
        private int number = 0;

        boolean hasRoom() {
            return length + BYTES_AT_ONCE <= MOST_BYTES;
        }

        void addInt(int four) {
            for (int shift = 24; shift >= 0 && length < MOST_BYTES; shift -= 8) {
                bytes[length] = (byte) (four >> shift);
                length++;
            }
        }

        /** Reads the whole text; false if it has an error, which is kept then. */
        boolean readInto(Source into) {
            errorCode = 0;
            errorPosition = NONE;
            end = 0;
            into.clear();
            toNextToken();
            return readSettings(into) && readSamples(into);
        }

        private boolean readSettings(Source into) {
            int seen = 0;
            for (int done = 0; done <= SETTINGS; done++) {
                int setting = settingHere();
                if (setting == NONE) {
                    return true;
                }
                if ((seen >> setting & 1) != 0) {
                    return isWrong(REPEATED);
                }
                seen |= 1 << setting;
                toNextToken();
                if (!readSetting(setting, into) || !passSemicolon()) {
                    return false;
                }
            }
            return true;
        }

        private int settingHere() {
            if (isWord("split")) {
                return SPLIT_SETTING;
            }
            if (isWord("predict")) {
                return PREDICT_SETTING;
            }
            if (isWord("update")) {
                return UPDATE_SETTING;
            }
            return isWord("least") ? LEAST_SETTING : NONE;
        }

        private boolean readSetting(int setting, Source into) {
            switch (setting) {
                case SPLIT_SETTING:
                    into.split = isWord("span") ? SPAN : isWord("dyadic") ? DYADIC : isWord("detail") ? DETAIL : NONE;
                    return into.split == NONE ? isWrong(CANNOT_STAND) : pass();
                case PREDICT_SETTING:
                    into.predict = isWord("left") ? LEFT : isWord("near") ? NEAR : isWord("linear") ? LINEAR : NONE;
                    return into.predict == NONE ? isWrong(CANNOT_STAND) : pass();
                case UPDATE_SETTING:
                    into.isKeep = isWord("keep");
                    return into.isKeep || isWord("none") ? pass() : isWrong(CANNOT_STAND);
                default:
                    return readLeast(into);
            }
        }

        private boolean readLeast(Source into) {
            if (kind != NUMBER) {
                return isWrong(CANNOT_STAND);
            }
            if (number < LEAST_SAMPLES || number > MOST_SAMPLES) {
                return isWrong(OUT_OF_RANGE);
            }
            into.least = number;
            return pass();
        }

        private boolean readSamples(Source into) {
            for (int done = 0; done <= MOST_SAMPLES; done++) {
                if (kind == END && done >= LEAST_SAMPLES) {
                    return true;
                }
                if (!isWord("at")) {
                    return isWrong(CANNOT_STAND);
                }
                if (done == MOST_SAMPLES) {
                    return isWrong(TOO_MANY);
                }
                toNextToken();
                if (!readSample(into) || !passSemicolon()) {
                    return false;
                }
            }
            return true;
        }

        private boolean readSample(Source into) {
            if (kind != NUMBER) {
                return isWrong(CANNOT_STAND);
            }
            int at = number;
            if (into.count > 0 && at <= into.position[into.count - 1]) {
                return isWrong(OUT_OF_RANGE);
            }
            toNextToken();
            boolean isNegative = kind == MINUS;
            if (isNegative) {
                toNextToken();
            }
            if (kind != NUMBER) {
                return isWrong(CANNOT_STAND);
            }
            into.addSample(at, isNegative ? -number : number);
            return pass();
        }

        private boolean passSemicolon() {
            return kind == SEMICOLON ? pass() : isWrong(CANNOT_STAND);
        }

        private boolean pass() {
            toNextToken();
            return true;
        }

        private boolean isWrong(int code) {
            errorCode = code;
            errorPosition = start;
            return false;
        }

        // -- tokens

        private boolean isWord(String word) {
            if (kind != WORD || end - start != word.length()) {
                return false;
            }
            for (int i = 0; i < word.length(); i++) {
                if (bytes[start + i] != word.charAt(i)) {
                    return false;
                }
            }
            return true;
        }

        private void toNextToken() {
            start = end;
            while (start < length && (bytes[start] == ' ' || bytes[start] == '\n')) {
                start++;
            }
            end = start;
            if (start >= length) {
                kind = END;
            } else if (isLetter(bytes[start])) {
                kind = WORD;
                passLetters();
            } else if (isDigit(bytes[start])) {
                passDigits();
                kind = end - start <= MOST_DIGITS ? NUMBER : WRONG;
            } else {
                kind = bytes[start] == ';' ? SEMICOLON : bytes[start] == '-' ? MINUS : WRONG;
                end++;
            }
        }

        private void passLetters() {
            while (end < length && isLetter(bytes[end])) {
                end++;
            }
        }

        private void passDigits() {
            number = 0;
            while (end < length && isDigit(bytes[end])) {
                number = number * 10 + (bytes[end] - '0');
                end++;
            }
        }

        private static boolean isLetter(byte b) {
            return b >= 'a' && b <= 'z';
        }

        private static boolean isDigit(byte b) {
            return b >= '0' && b <= '9';
        }
    }
}
