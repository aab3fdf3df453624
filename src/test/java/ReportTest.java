import java.util.NoSuchElementException;

/**
 * Promises 7 to 20: the reports. The answers that are due are worked out by hand. With the text FOUR, lift(2) makes
 * the step d = 6 - (22 + floor(-2 * 4 / 6)) = -14, s = floor(6 * 2 / 6) = 2, E = 10, F = 6, the neighbours
 * 22 - 7 = 15 and 20 - 4 = 16, the drift 252 - 246 = 6; lift(1) then makes d = 15 - 12 = 3, s = 6, E = F = 10, the
 * neighbours 11 and 17, the drift 6 + 286 - 280 = 12.
 */
public final class ReportTest {
    private static final Class<IllegalArgumentException> ILLEGAL = IllegalArgumentException.class;
    private static final Class<IndexOutOfBoundsException> NO_INDEX = IndexOutOfBoundsException.class;
    private static final int NONE = LiftingSignal.NONE;
    static final String FOUR = "at 0 10; at 4 22; at 8 6; at 10 20;";

    public static void main(String[] args) {
        promise7Count();
        promise8Sample();
        promise9Present();
        promise10Neighbour();
        promise11Step();
        promise12ValueAt();
        promises13And14IntegralAndDrift();
        promise15Mean();
        promise16PlainMean();
        promise17Energy();
        promise18Bits();
        promise19Largest();
        promise20Next();
        mostSamples();
        fewerSamplesThanBefore();
        Check.end();
    }

    static LiftingSignal twoSteps() {
        LiftingSignal signal = Check.loaded(FOUR);
        signal.lift(2);
        signal.lift(1);
        return signal;
    }

    private static void counts(String when, LiftingSignal signal, int... due) {
        for (int what = 0; what < due.length; what++) {
            Check.same(when + ": count(" + what + ")", signal.count(what), due[what]);
        }
    }

    private static void promise7Count() {
        LiftingSignal signal = Check.loaded("least 3; split dyadic; predict near; update none;" + FOUR);
        counts("loaded", signal, 4, 4, 0, 0, 1, 1, 0, 3, 20);
        signal.lift(2);
        counts("lifted", signal, 4, 3, 1, 0, 1, 1, 0, 3, 20);
        signal.setDetail(0, 0);
        signal.setSplit(2);
        signal.setPredict(0);
        signal.setUpdate(true);
        counts("changed", signal, 4, 3, 1, 1, 2, 0, 1, 3, 20);
        Check.refused("count(-1)", ILLEGAL, () -> signal.count(-1));
        Check.refused("count(9)", ILLEGAL, () -> signal.count(9));
        Check.refused("count(least int)", ILLEGAL, () -> signal.count(Integer.MIN_VALUE));
    }

    private static void promise8Sample() {
        LiftingSignal signal = twoSteps();
        long[][] due = {{0, 10, 1, 11, 10, NONE}, {4, 22, 0, NONE, 10, 1}, {8, 6, 0, NONE, 6, 0}, {10, 20, 1, 17, 10, NONE}};
        for (int sample = 0; sample < 4; sample++) {
            for (int what = 0; what <= 5; what++) {
                Check.same("sample(" + sample + ", " + what + ")", signal.sample(sample, what), due[sample][what]);
            }
        }
        Check.refused("sample(-1, 0)", NO_INDEX, () -> signal.sample(-1, 0));
        Check.refused("sample(4, 0)", NO_INDEX, () -> signal.sample(4, 0));
        Check.refused("sample(4, 6)", NO_INDEX, () -> signal.sample(4, 6));
        Check.refused("sample(greatest int, 0)", NO_INDEX, () -> signal.sample(Integer.MAX_VALUE, 0));
        Check.refused("sample(0, 6)", ILLEGAL, () -> signal.sample(0, 6));
        Check.refused("sample(0, -1)", ILLEGAL, () -> signal.sample(0, -1));
    }

    private static void promise9Present() {
        LiftingSignal signal = Check.loaded(FOUR);
        for (int index = 0; index < 4; index++) {
            Check.same("present(" + index + ")", signal.present(index), index);
        }
        signal.lift(1);
        Check.same("present(0)", signal.present(0), 0);
        Check.same("present(1)", signal.present(1), 2);
        Check.same("present(2)", signal.present(2), 3);
        Check.refused("present(3)", NO_INDEX, () -> signal.present(3));
        Check.refused("present(-1)", NO_INDEX, () -> signal.present(-1));
    }

    private static void promise10Neighbour() {
        LiftingSignal signal = Check.loaded(FOUR);
        Check.same("left of 0", signal.neighbour(0, false), NONE);
        Check.same("right of 0", signal.neighbour(0, true), 1);
        Check.same("left of 3", signal.neighbour(3, false), 2);
        Check.same("right of 3", signal.neighbour(3, true), NONE);
        signal.lift(2);
        signal.lift(1);
        Check.same("left of the lifted 2", signal.neighbour(2, false), 0);
        Check.same("right of the lifted 2", signal.neighbour(2, true), 3);
        Check.same("right of the lifted 1", signal.neighbour(1, true), 3);
        Check.same("right of 0 then", signal.neighbour(0, true), 3);
        Check.same("left of 3 then", signal.neighbour(3, false), 0);
        Check.refused("neighbour(-1)", NO_INDEX, () -> signal.neighbour(-1, true));
        Check.refused("neighbour(4)", NO_INDEX, () -> signal.neighbour(4, false));
    }

    private static void promise11Step() {
        LiftingSignal signal = twoSteps();
        long[][] due = {{2, 1, 3, -14, 6, 2}, {1, 0, 3, 3, 10, 6}};
        for (int step = 0; step < 2; step++) {
            for (int what = 0; what <= 5; what++) {
                Check.same("step(" + step + ", " + what + ")", signal.step(step, what), due[step][what]);
            }
        }
        Check.refused("step(2, 0)", NO_INDEX, () -> signal.step(2, 0));
        Check.refused("step(2, 6)", NO_INDEX, () -> signal.step(2, 6));
        Check.refused("step(-1, 0)", NO_INDEX, () -> signal.step(-1, 0));
        Check.refused("step(0, 6)", ILLEGAL, () -> signal.step(0, 6));
        Check.refused("step(0, -1)", ILLEGAL, () -> signal.step(0, -1));
        signal.inverse(1);
        Check.refused("an inverted step is gone", NO_INDEX, () -> signal.step(1, 0));
    }

    private static void promise12ValueAt() {
        LiftingSignal signal = Check.loaded(FOUR);
        long[] due = {10, 13, 16, 19, 22, 18, 14, 10, 6, 13, 20};
        for (int position = 0; position <= 10; position++) {
            Check.same("valueAt(" + position + ")", signal.valueAt(position), due[position]);
        }
        signal.lift(2);
        Check.same("valueAt(4)", signal.valueAt(4), 15);
        Check.same("valueAt(8) over the lifted 2", signal.valueAt(8), 15);
        Check.same("valueAt(10)", signal.valueAt(10), 16);
        Check.refused("valueAt(-1)", NO_INDEX, () -> signal.valueAt(-1));
        Check.refused("valueAt(11)", NO_INDEX, () -> signal.valueAt(11));
        LiftingSignal falling = Check.loaded("at 5 0; at 8 -1;");
        Check.same("falling, at 5", falling.valueAt(5), 0);
        Check.same("falling, at 6", falling.valueAt(6), -1);
        Check.same("falling, at 8", falling.valueAt(8), -1);
        Check.refused("before the first one", NO_INDEX, () -> falling.valueAt(4));
        Check.refused("behind the last one", NO_INDEX, () -> falling.valueAt(9));
        falling.setPredict(0);
        Check.same("the line is linear with each rule", falling.valueAt(6), -1);
    }

    private static void promises13And14IntegralAndDrift() {
        LiftingSignal signal = Check.loaded(FOUR);
        Check.same("integral", signal.integral(), 292);
        Check.same("drift", signal.drift(), 0);
        signal.lift(2);
        Check.same("drift after a step", signal.drift(), 6);
        signal.lift(1);
        Check.same("drift after two steps", signal.drift(), 12);
        Check.same("integral after two steps", signal.integral(), 292);
        signal.setDetail(1, 0);
        signal.inverse(1);
        // 11 and 17 stay, the sample becomes 13: 4 * 11 + 6 * 17 + 10 * 13 = 276, before it was 280
        Check.same("drift after a changed detail", signal.drift(), 16);
        signal.inverse(1);
        Check.same("integral after the inversions", signal.integral(), 292);
        signal.set(0, 11 + 100);
        Check.same("integral after a set", signal.integral(), 292 + 4 * 100);
        LiftingSignal none = Check.loaded("update none;" + FOUR);
        none.lift(1);
        Check.same("drift without an update", none.drift(), 112);
        Check.same("integral without an update", none.integral(), 292);
    }

    private static void promise15Mean() {
        LiftingSignal signal = twoSteps();
        Check.same("mean(0)", signal.mean(0), 73);
        Check.same("mean(1)", signal.mean(1), 5);
        Check.refused("mean(2)", ILLEGAL, () -> signal.mean(2));
        Check.refused("mean(-1)", ILLEGAL, () -> signal.mean(-1));
        LiftingSignal zero = Check.loaded("at 0 5; at 7 -5;");
        Check.same("a mean of 0", zero.mean(0), 0);
        Check.same("the denominator of 0", zero.mean(1), 1);
        LiftingSignal less = Check.loaded("at 0 -5; at 6 2;");
        Check.same("a mean below 0", less.mean(0), -3);
        Check.same("its denominator is positive", less.mean(1), 2);
        LiftingSignal whole = Check.loaded("at 0 -4; at 6 -4;");
        Check.same("a whole mean", whole.mean(0), -4);
        Check.same("its denominator", whole.mean(1), 1);
    }

    private static void promise16PlainMean() {
        LiftingSignal signal = Check.loaded(FOUR);
        Check.sameDouble("plainMean", signal.plainMean(), 14.5);
        signal.lift(2);
        Check.sameDouble("plainMean of three", signal.plainMean(), 41.0 / 3.0);
        Check.sameDouble("plainMean below 0", Check.loaded("at 0 -2; at 100 -3;").plainMean(), -2.5);
    }

    private static void promise17Energy() {
        LiftingSignal signal = Check.loaded(FOUR);
        Check.same("energy without steps", signal.energy(), 0);
        signal.lift(2);
        Check.same("energy of a step", signal.energy(), 6 * 14 * 14);
        signal.lift(1);
        Check.same("energy of two steps", signal.energy(), 6 * 14 * 14 + 10 * 3 * 3);
        signal.setDetail(0, -99999);
        Check.same("energy of a great detail", signal.energy(), 6L * 99999 * 99999 + 90);
    }

    private static void promise18Bits() {
        LiftingSignal signal = Check.loaded(FOUR);
        Check.same("bits without steps", signal.bits(), 0);
        signal.lift(2);
        Check.same("bits of -14", signal.bits(), 5);
        signal.lift(1);
        Check.same("bits of -14 and 3", signal.bits(), 8);
        int[][] due = {{0, 1}, {1, 2}, {-1, 2}, {2, 3}, {3, 3}, {4, 4}, {-7, 4}, {-8, 5}, {99999, 18}, {65536, 18}, {65535, 17}};
        for (int[] pair : due) {
            signal.setDetail(1, pair[0]);
            Check.same("bits with " + pair[0], signal.bits(), 5 + pair[1]);
        }
    }

    private static void promise19Largest() {
        LiftingSignal signal = twoSteps();
        Check.same("largest(0)", signal.largest(0), 0);
        Check.same("largest(1)", signal.largest(1), 1);
        signal.setDetail(1, 15);
        Check.same("largest(0) by amount", signal.largest(0), 1);
        Check.same("largest(1) by amount", signal.largest(1), 0);
        signal.setDetail(1, 14);
        Check.same("largest(0) of equal ones", signal.largest(0), 0);
        Check.same("largest(1) of equal ones", signal.largest(1), 1);
        Check.refused("largest(2)", NO_INDEX, () -> signal.largest(2));
        Check.refused("largest(-1)", NO_INDEX, () -> signal.largest(-1));
        Check.refused("largest(0) without steps", NO_INDEX, () -> new LiftingSignal().largest(0));
    }

    /** 48 samples with the value 0, the last one with 47; lifted by left, all details are 0. */
    private static void mostSamples() {
        LiftingSignal signal = Check.loaded("predict left;" + TextTest.samples(48));
        signal.set(47, 47);
        counts("most, present", signal, 48, 48, 0, 0, 0, 0, 1, 2, 94);
        Check.same("most: present(47)", signal.present(47), 47);
        Check.same("most: right of 47", signal.neighbour(47, true), NONE);
        Check.same("most: valueAt(47)", signal.valueAt(47), 47);
        Check.same("most: integral", signal.integral(), 47);
        Check.same("most: mean(0)", signal.mean(0), 1);
        Check.same("most: mean(1)", signal.mean(1), 2);
        Check.sameDouble("most: plainMean", signal.plainMean(), 47.0 / 48.0);
        Check.same("most: next", signal.next(), 1);
        Check.same("most: bitsBy", signal.bitsBy(0, 0), 46);
        Check.same("most: bestScheme", signal.bestScheme(), 0);
        Check.same("most: error(1)", signal.error(1), 47);
        Check.same("most: forward", signal.forward(46), 46);
        counts("most, lifted", signal, 48, 2, 46, 46, 0, 0, 1, 2, 94);
        Check.same("most: energy", signal.energy(), 0);
        Check.same("most: bits", signal.bits(), 46);
        Check.same("most: largest(45)", signal.largest(45), 45);
        Check.same("most: error(0)", signal.error(0), 47);
        Check.same("most: error(1) with steps", signal.error(1), 47);
        Check.same("most: error(2)", signal.error(2), 1);
        Check.same("most: bestThreshold", signal.bestThreshold(47), 1000);
        Check.refused("most: bestThreshold(46)", NoSuchElementException.class, () -> signal.bestThreshold(46));
        Check.same("most: keepLargest(46)", signal.keepLargest(46), 0);
        Check.same("most: threshold", signal.threshold(0, true), 46);
        Check.same("most: quantize", signal.quantize(7), 0);
        Check.same("most: keepLargest", signal.keepLargest(1), 0);
        signal.save(0);
        signal.reset();
        signal.restore(0);
        Check.same("most: inverse", signal.inverse(46), 46);
        Check.same("most: value of 47", signal.sample(47, 3), 47);
    }

    private static void fewerSamplesThanBefore() {
        LiftingSignal signal = Check.loaded(TextTest.samples(48));
        signal.noise(1, 999);
        signal.forward(46);
        signal.setDetail(1, 99999);
        Check.type(signal, FOUR);
        signal.load();
        counts("fewer", signal, 4, 4, 0, 0, 0, 2, 1, 2, 20);
        Check.same("fewer: right of 3", signal.neighbour(3, true), NONE);
        Check.same("fewer: integral", signal.integral(), 292);
        Check.sameDouble("fewer: plainMean", signal.plainMean(), 14.5);
        Check.same("fewer: error(1)", signal.error(1), 0);
        Check.same("fewer: bestScheme", signal.bestScheme(), 2);
        Check.same("fewer: energy", signal.energy(), 0);
        Check.same("fewer: bits", signal.bits(), 0);
        Check.same("fewer: next", signal.next(), 2);
        Check.same("fewer: forward", signal.forward(46), 2);
        Check.same("fewer", Check.fingerprint(signal), Check.fingerprint(twoSteps()));
        Check.same("fewer: bits of two steps", signal.bits(), 8);
        Check.same("fewer: threshold", signal.threshold(4, false), 1);
    }

    private static void promise20Next() {
        LiftingSignal signal = Check.loaded(FOUR);
        Check.same("next by span", signal.next(), 2);
        Check.same("next changes nothing", signal.count(2), 0);
        signal.setSplit(1);
        Check.same("next by dyadic", signal.next(), 1);
        signal.setSplit(2);
        Check.same("next by detail, 14 and -14", signal.next(), 1);
        signal.set(2, 7);
        Check.same("next by detail, 13 or 14 and -13", signal.next(), 2);
        signal.forward(46);
        Check.refused("next without inner samples", NoSuchElementException.class, signal::next);
        Check.refused("next of a new one", NoSuchElementException.class, () -> new LiftingSignal().next());
        LiftingSignal least = Check.loaded("least 4;" + FOUR);
        Check.refused("next with least", NoSuchElementException.class, least::next);
        LiftingSignal three = Check.loaded("least 3;" + FOUR);
        Check.same("next above least", three.next(), 2);
        LiftingSignal equal = Check.loaded("at 0 1; at 1 1; at 2 1; at 3 1; at 4 1;");
        Check.same("next of equal ones", equal.next(), 1);
    }
}
