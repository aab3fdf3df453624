import java.util.NoSuchElementException;
import java.util.function.IntConsumer;

/**
 * The boundary cases of promises 7 to 42, sentence by sentence in the order of the document: the last arguments that
 * are allowed and the first that are not, empty and full signals, ties and wrap-arounds. The answers that are due are
 * worked out by hand; the two steps of ReportTest have the details -14 and 3.
 */
public final class CallBoundaryTest {
    private static final Class<IllegalArgumentException> ILLEGAL = IllegalArgumentException.class;
    private static final Class<IndexOutOfBoundsException> NO_INDEX = IndexOutOfBoundsException.class;
    private static final Class<IllegalStateException> STATE = IllegalStateException.class;
    private static final Class<NoSuchElementException> NO_ELEMENT = NoSuchElementException.class;
    private static final int NONE = LiftingSignal.NONE;
    private static final String FOUR = ReportTest.FOUR;

    public static void main(String[] args) {
        promise7Count();
        promise8Sample();
        promise9Present();
        promise10Neighbour();
        promise11Step();
        promise12ValueAt();
        promises13And14IntegralAndDrift();
        promise15Mean();
        promise16PlainMean();
        promise17Energy();
        promise18Bits();
        promise19Largest();
        promise20Next();
        promises21To23Settings();
        promise24Set();
        promise25Noise();
        promise25NoiseWrapsAround();
        promise26Reset();
        promise27Forward();
        promise28Lift();
        promise29Inverse();
        promise30SetDetail();
        promise31Threshold();
        promise32Quantize();
        promise33KeepLargest();
        promise34Error();
        promise35ErrorWith();
        promise36BestThreshold();
        promise36BestThresholdOfNone();
        promises37And38Schemes();
        promise38EachScheme();
        promise38OfFullSignals();
        promises39And40Reasons();
        promises41And42Slots();
        Check.end();
    }

    /** The call must refuse all numbers below and above, the nearest and the farthest, and take the two in between. */
    private static void range(String name, Class<? extends RuntimeException> due, int low, int high, IntConsumer call) {
        for (int wrong : new int[] {low - 1, high + 1, Integer.MIN_VALUE, Integer.MAX_VALUE}) {
            Check.refused(name + " with " + wrong, due, () -> call.accept(wrong));
        }
        for (int right : new int[] {low, high}) {
            try {
                call.accept(right);
            } catch (RuntimeException thrown) {
                Check.fail(name + " with " + right + " threw " + thrown);
            }
        }
    }

    // ---- reports

    private static void promise7Count() {
        LiftingSignal signal = ReportTest.twoSteps();
        range("count", ILLEGAL, 0, 8, signal::count);
        LiftingSignal empty = new LiftingSignal();
        Check.same("no steps", empty.count(2), 0);
        Check.same("no steps whose detail is 0", empty.count(3), 0);
        Check.same("two weights", empty.count(8), 2);
        LiftingSignal full = Check.loaded(TextTest.samples(48));
        full.forward(46);
        Check.same("two are present", full.count(1), 2);
        Check.same("all others are steps", full.count(2), 46);
        Check.same("each detail is 0", full.count(3), 46);
        full.setDetail(45, -1);
        Check.same("all but one", full.count(3), 45);
        Check.same("the weights stay", full.count(8), 94);
        Check.same("the greatest weights", Check.loaded("at 0 0; at 9999 0;").count(8), 2 * 9999);
    }

    private static void promise8Sample() {
        LiftingSignal signal = ReportTest.twoSteps();
        range("sample", NO_INDEX, 0, 3, sample -> signal.sample(sample, 0));
        range("sample of a lifted one", ILLEGAL, 0, 5, what -> signal.sample(1, what));
        Check.same("NONE if it is lifted", signal.sample(2, 3), NONE);
        Check.same("NONE if it is present", signal.sample(3, 5), NONE);
        Check.same("the weight with which it was lifted", signal.sample(1, 4), 10);
        Check.same("not that at first", Check.loaded(FOUR).sample(1, 4), 8);
        LiftingSignal minus = Check.loaded("at 0 -1; at 1 0;");
        Check.same("a value may be -1, too", minus.sample(0, 3), -1);
    }

    private static void promise9Present() {
        LiftingSignal signal = Check.loaded(TextTest.samples(48));
        range("present of 48", NO_INDEX, 0, 47, signal::present);
        Check.same("the last of 48", signal.present(47), 47);
        signal.forward(46);
        range("present of 2", NO_INDEX, 0, 1, signal::present);
        Check.same("the second of 2", signal.present(1), 47);
    }

    private static void promise10Neighbour() {
        LiftingSignal signal = ReportTest.twoSteps();
        range("neighbour", NO_INDEX, 0, 3, sample -> signal.neighbour(sample, true));
        Check.same("none to the left of the first", signal.neighbour(0, false), NONE);
        Check.same("none to the right of the last", signal.neighbour(3, true), NONE);
        Check.same("over lifted ones to the right", signal.neighbour(0, true), 3);
        Check.same("over lifted ones to the left", signal.neighbour(3, false), 0);
        Check.same("of a lifted one to the left", signal.neighbour(1, false), 0);
        Check.same("of a lifted one to the right, over another", signal.neighbour(1, true), 3);
    }

    private static void promise11Step() {
        LiftingSignal signal = ReportTest.twoSteps();
        range("step", NO_INDEX, 0, 1, step -> signal.step(step, 0));
        range("step's what", ILLEGAL, 0, 5, what -> signal.step(1, what));
        Check.refused("no step", NO_INDEX, () -> new LiftingSignal().step(0, 0));
        LiftingSignal full = Check.loaded(TextTest.samples(48));
        full.forward(46);
        range("step of 46", NO_INDEX, 0, 45, step -> full.step(step, 5));
    }

    private static void promise12ValueAt() {
        LiftingSignal signal = Check.loaded("at 5 -3; at 8 4; at 9999 -9999;");
        range("valueAt", NO_INDEX, 5, 9999, signal::valueAt);
        Check.same("at the first one", signal.valueAt(5), -3);
        Check.same("at an inner one", signal.valueAt(8), 4);
        Check.same("at the last one", signal.valueAt(9999), -9999);
        // -3 + floor(7 * 1 / 3), 4 + floor(-10003 * 1 / 9991), -10003 * 9990 / 9991 = -10001.99..
        Check.same("up, rounded down", signal.valueAt(6), -1);
        Check.same("down, rounded down", signal.valueAt(9), 2);
        Check.same("just before the last one", signal.valueAt(9998), 4 - 10002);
        signal.lift(1);
        Check.same("at a lifted one, the line", signal.valueAt(8), line(signal, 8));
    }

    private static long line(LiftingSignal signal, int at) {
        long a = signal.sample(0, 3);
        return a + Math.floorDiv((signal.sample(2, 3) - a) * (at - 5), 9999 - 5);
    }

    private static void promises13And14IntegralAndDrift() {
        LiftingSignal wide = Check.loaded("at 0 9999; at 9999 9999;");
        Check.same("the greatest integral", wide.integral(), 2L * 9999 * 9999);
        LiftingSignal low = Check.loaded("at 0 -9999; at 5000 -9999; at 9999 -9999;");
        Check.same("the least integral", low.integral(), -2L * 9999 * 9999);
        Check.same("no drift without steps", wide.drift(), 0);
        LiftingSignal great = Check.loaded("at 0 0; at 5000 0; at 9999 0;");
        great.lift(1);
        great.setDetail(0, 99999);
        great.inverse(1);
        Check.same("the integral stays", great.integral(), 0);
        // E = 9999, F = 9999: floor(9999 * 99999 / 19998) = 49999 is taken back; floor(9999 * 99999 * .. / ..) + 99999
        Check.values("values greater than they can be set", great, -49999, 50000, -49999);
        Check.same("the drift", great.drift(), 49999L * 5000 + 49999L * 4999 - 50000L * 9999);
        great.set(1, 0);
        Check.same("a value set leaves the drift", great.drift(), 49999L * 9999 - 50000L * 9999);
        Check.same("but not the integral", great.integral(), -50000L * 9999);
    }

    private static void means(String text, long numerator, long denominator) {
        LiftingSignal signal = Check.loaded(text);
        Check.same(text + " mean(0)", signal.mean(0), numerator);
        Check.same(text + " mean(1)", signal.mean(1), denominator);
    }

    private static void promise15Mean() {
        range("mean", ILLEGAL, 0, 1, new LiftingSignal()::mean);
        means("at 0 0; at 1 0;", 0, 1);
        means("at 0 5; at 7 -5;", 0, 1);
        means("at 0 1; at 1 0;", 1, 2);
        means("at 0 -1; at 1 0;", -1, 2);
        means("at 0 4; at 1 4;", 4, 1);
        means("at 0 -9999; at 9999 9998;", -1, 2);
        means("at 0 9999; at 9999 9999;", 9999, 1);
        // (1 * 1 + 3 * 1 + 2 * 0) / 6
        means("at 0 1; at 1 1; at 3 0;", 2, 3);
    }

    private static void promise16PlainMean() {
        Check.sameDouble("of two", Check.loaded("at 0 1; at 9 2;").plainMean(), 1.5);
        Check.sameDouble("of zeros", new LiftingSignal().plainMean(), 0.0);
        Check.sameDouble("below 0", Check.loaded("at 0 0; at 1 0; at 2 -1;").plainMean(), -1.0 / 3.0);
        Check.sameDouble("present ones alone", ReportTest.twoSteps().plainMean(), 14.0);
        Check.sameDouble("the greatest", Check.loaded("at 0 9999; at 1 9999;").plainMean(), 9999.0);
    }

    private static void promise17Energy() {
        Check.same("without steps", new LiftingSignal().energy(), 0);
        LiftingSignal signal = Check.loaded("at 0 0; at 5000 0; at 9999 0;");
        signal.lift(1);
        Check.same("of the detail 0", signal.energy(), 0);
        signal.setDetail(0, -99999);
        Check.same("greater than an int", signal.energy(), 9999L * 99999 * 99999);
        signal.inverse(1);
        Check.same("without steps again", signal.energy(), 0);
    }

    private static void promise18Bits() {
        LiftingSignal signal = Check.loaded("at 0 0; at 1 0; at 2 0;");
        Check.same("without steps", signal.bits(), 0);
        signal.lift(1);
        Check.same("of the detail 0", signal.bits(), 1);
        for (int bits = 1; bits <= 16; bits++) {
            signal.setDetail(0, 1 << bits - 1);
            Check.same("the least with " + bits, signal.bits(), 1 + bits);
            signal.setDetail(0, -(1 << bits - 1));
            Check.same("its opposite", signal.bits(), 1 + bits);
            signal.setDetail(0, (1 << bits) - 1);
            Check.same("the greatest with " + bits, signal.bits(), 1 + bits);
            signal.setDetail(0, 1 - (1 << bits));
            Check.same("its opposite", signal.bits(), 1 + bits);
        }
        signal.setDetail(0, -99999);
        Check.same("of 99999", signal.bits(), 1 + 17);
    }

    private static void promise19Largest() {
        LiftingSignal signal = Check.loaded(TextTest.samples(48));
        Check.refused("largest without steps", NO_INDEX, () -> signal.largest(0));
        signal.forward(46);
        range("largest of 46", NO_INDEX, 0, 45, signal::largest);
        for (int index = 0; index < 46; index++) {
            Check.same("equal ones by their numbers", signal.largest(index), index);
        }
        signal.setDetail(45, -1);
        Check.same("without sign", signal.largest(0), 45);
        signal.setDetail(0, 1);
        Check.same("equal amounts", signal.largest(0), 0);
        Check.same("the higher number behind", signal.largest(1), 45);
        Check.same("the zeros behind them", signal.largest(2), 1);
        Check.same("the last one", signal.largest(45), 44);
    }

    private static void promise20Next() {
        Check.refused("of two samples", NO_ELEMENT, new LiftingSignal()::next);
        Check.same("of three samples", Check.loaded(TextTest.samples(3)).next(), 1);
        Check.refused("of three samples with least 3", NO_ELEMENT, Check.loaded("least 3;" + TextTest.samples(3))::next);
        LiftingSignal signal = Check.loaded("least 3;" + FOUR);
        Check.same("above least", signal.next(), 2);
        signal.lift(1);
        Check.refused("at least", NO_ELEMENT, signal::next);
        Check.same("next is no exception of the state", signal.reason(0), 0);
    }

    // ---- settings and samples

    private static void promises21To23Settings() {
        LiftingSignal signal = Check.loaded(FOUR);
        range("setSplit", ILLEGAL, 0, 2, signal::setSplit);
        range("setPredict", ILLEGAL, 0, 2, signal::setPredict);
        Check.same("the last split", signal.setSplit(2), 2);
        Check.same("the same again", signal.setSplit(2), 2);
        Check.same("the last predict", signal.setPredict(2), 2);
        Check.same("the same again", signal.setPredict(0), 2);
        Check.same("update was keep", signal.setUpdate(true), true);
        Check.same("still", signal.setUpdate(false), true);
        Check.same("update was none", signal.setUpdate(false), false);
        Check.same("still", signal.setUpdate(true), false);
        signal.lift(1);
        long share = signal.step(0, 5);
        signal.setPredict(2);
        Check.same("for later steps", signal.step(0, 5), share);
    }

    private static void promise24Set() {
        LiftingSignal signal = Check.loaded(FOUR);
        range("set", NO_INDEX, 0, 3, sample -> signal.set(sample, 1));
        range("the value set", ILLEGAL, -9999, 9999, value -> signal.set(3, value));
        Check.same("the previous value", signal.set(3, 20), 9999);
        Check.same("the original value stays", signal.sample(0, 1), 10);
        LiftingSignal lifted = Check.loaded(FOUR);
        lifted.lift(1);
        Check.refused("of a lifted one", STATE, () -> lifted.set(1, 0));
        Check.same("of its left neighbour, which has changed", lifted.set(0, 7), 15);
        Check.same("of its right neighbour, which has changed", lifted.set(2, 7), 12);
    }

    private static void promise25Noise() {
        LiftingSignal signal = Check.loaded("at 0 9999; at 1 -9999;");
        range("the level", ILLEGAL, 0, 999, level -> signal.noise(7, level));
        LiftingSignal none = Check.loaded("at 0 9999; at 1 -9999;");
        Check.same("level 0 adds nothing", none.noise(Integer.MIN_VALUE, 0), 0);
        Check.values("level 0", none, 9999, -9999);
        // 0 * 1103515245 + 12345: 0 % 3 - 1 = -1; 3554416254 >>> 16 = 54236, 54236 % 3 - 1 = 1
        Check.same("the sum", none.noise(0, 1), 0);
        Check.values("beyond -9999 and 9999", none, 9998, -9998);
        none.set(0, -9999);
        // -1 and 1 again
        none.noise(0, 1);
        Check.values("below -9999", none, -10000, -9997);
        Check.same("the original values stay", none.sample(0, 1), 9999);
        LiftingSignal lifted = Check.loaded(FOUR);
        lifted.lift(2);
        Check.refused("one is lifted", STATE, () -> lifted.noise(1, 0));
        lifted.inverse(1);
        Check.same("none is lifted", lifted.noise(1, 0), 58);
        Check.same("of 48", Check.loaded(TextTest.samples(48)).noise(1, 0), 0);
    }

    /** x overflows as an int; the shift does not keep its sign, so no remainder is below 0. */
    private static void promise25NoiseWrapsAround() {
        for (int seed : new int[] {Integer.MIN_VALUE, -1, 0, 1, Integer.MAX_VALUE, 987654321}) {
            LiftingSignal signal = Check.loaded(TextTest.samples(48));
            long sum = signal.noise(seed, 999);
            long x = seed;
            for (int sample = 0; sample < 48; sample++) {
                x = x * 1103515245L + 12345L & 0xffffffffL;
                long due = x / 65536 % 1999 - 999;
                Check.same("seed " + seed + ", sample " + sample, signal.sample(sample, 3), due);
                sum -= due;
            }
            Check.same("the sum of seed " + seed, sum, 0);
        }
    }

    private static void promise26Reset() {
        Check.same("without steps", new LiftingSignal().reset(), 0);
        LiftingSignal full = Check.loaded(TextTest.samples(48));
        String before = Check.fingerprint(full);
        full.noise(1, 999);
        full.forward(46);
        full.setDetail(45, 99999);
        Check.same("of 46 steps", full.reset(), 46);
        Check.same("all as at first", Check.fingerprint(full), before);
        Check.same("and again", full.reset(), 0);
        LiftingSignal drifting = Check.loaded(FOUR);
        drifting.lift(2);
        drifting.setDetail(0, 99);
        drifting.inverse(1);
        Check.same("no steps, but a drift", drifting.reset(), 0);
        Check.same("the drift is gone", drifting.drift(), 0);
        Check.same("the integral is that of the original values", drifting.integral(), 292);
    }

    // ---- steps

    private static void promise27Forward() {
        range("forward", ILLEGAL, 1, 46, steps -> Check.loaded(FOUR).forward(steps));
        LiftingSignal full = Check.loaded(TextTest.samples(48));
        Check.same("all", full.forward(46), 46);
        Check.refused("none is left", STATE, () -> full.forward(46));
        LiftingSignal one = Check.loaded(TextTest.samples(48));
        for (int steps = 1; steps <= 46; steps++) {
            Check.same("one by one", one.forward(1), 1);
        }
        Check.same("one by one and all", Check.fingerprint(one), Check.fingerprint(full));
        LiftingSignal part = Check.loaded(TextTest.samples(48));
        Check.same("as many as said", part.forward(45), 45);
        Check.same("as many as there are", part.forward(2), 1);
    }

    private static void promise28Lift() {
        LiftingSignal signal = Check.loaded("least 48;" + FOUR);
        Check.refused("lift(-1)", NO_INDEX, () -> signal.lift(-1));
        Check.refused("lift(4)", NO_INDEX, () -> signal.lift(4));
        Check.refused("lift(least int)", NO_INDEX, () -> signal.lift(Integer.MIN_VALUE));
        Check.refused("lift(greatest int)", NO_INDEX, () -> signal.lift(Integer.MAX_VALUE));
        Check.refused("an end", STATE, () -> signal.lift(0));
        Check.refused("the other end", STATE, () -> signal.lift(3));
        Check.same("below least", signal.lift(2), -14);
        Check.refused("lifted already", STATE, () -> signal.lift(2));
        Check.same("down to two", signal.lift(1), 3);
        Check.refused("an end of two", STATE, () -> signal.lift(3));
    }

    private static void promise29Inverse() {
        LiftingSignal signal = ReportTest.twoSteps();
        for (int wrong : new int[] {0, -1, 47, Integer.MIN_VALUE, Integer.MAX_VALUE}) {
            Check.refused("inverse(" + wrong + ")", ILLEGAL, () -> signal.inverse(wrong));
        }
        Check.same("as many as said", signal.inverse(1), 1);
        Check.same("the latest one first", signal.step(0, 0), 2);
        Check.same("as many as there are", signal.inverse(46), 1);
        Check.refused("none is left", STATE, () -> signal.inverse(1));
        LiftingSignal full = Check.loaded(TextTest.samples(48));
        full.noise(3, 999);
        String before = Check.fingerprint(full);
        full.forward(46);
        Check.same("all", full.inverse(46), 46);
        Check.same("each step can be inverted exactly", Check.fingerprint(full), before);
    }

    // ---- details

    private static void promise30SetDetail() {
        LiftingSignal signal = ReportTest.twoSteps();
        range("setDetail", NO_INDEX, 0, 1, step -> signal.setDetail(step, 1));
        range("the detail set", ILLEGAL, -99999, 99999, detail -> signal.setDetail(1, detail));
        Check.same("the previous detail", signal.setDetail(1, 0), 99999);
        Check.refused("without steps", NO_INDEX, () -> new LiftingSignal().setDetail(0, 0));
    }

    private static void details(String when, LiftingSignal signal, long... due) {
        for (int step = 0; step < due.length; step++) {
            Check.same(when + ": detail of step " + step, signal.step(step, 3), due[step]);
        }
    }

    private static LiftingSignal withDetails(int first, int second) {
        LiftingSignal signal = ReportTest.twoSteps();
        signal.setDetail(0, first);
        signal.setDetail(1, second);
        return signal;
    }

    private static void promise31Threshold() {
        range("threshold", ILLEGAL, 0, 9999, threshold -> ReportTest.twoSteps().threshold(threshold, true));
        Check.same("without steps", new LiftingSignal().threshold(9999, true), 0);
        for (int sign = -1; sign <= 1; sign += 2) {
            LiftingSignal hard = withDetails(sign * 5, sign * 4);
            Check.same("less becomes 0", hard.threshold(5, false), 1);
            details("as much stays", hard, sign * 5, 0);
            LiftingSignal soft = withDetails(sign * 6, sign * 5);
            Check.same("as much becomes 0, if soft", soft.threshold(5, true), 1);
            details("more decreases", soft, sign, 0);
            LiftingSignal nothing = withDetails(sign, 0);
            Check.same("0 cuts nothing", nothing.threshold(0, true), 1);
            details("0 cuts nothing", nothing, sign, 0);
            LiftingSignal great = withDetails(sign * 99999, sign * 9998);
            Check.same("the greatest threshold", great.threshold(9999, true), 1);
            details("the greatest threshold", great, sign * 90000, 0);
        }
    }

    private static void promise32Quantize() {
        range("quantize", ILLEGAL, 1, 9999, quantum -> ReportTest.twoSteps().quantize(quantum));
        Check.refused("quantize(0)", ILLEGAL, () -> ReportTest.twoSteps().quantize(0));
        Check.same("without steps", new LiftingSignal().quantize(9999), 0);
        for (int sign = -1; sign <= 1; sign += 2) {
            LiftingSignal even = withDetails(sign * 6, sign * 7);
            Check.same("halves, and more", even.quantize(4), 2 + 1);
            details("the half goes nearer to 0", even, sign * 4, sign * 8);
            LiftingSignal small = withDetails(sign * 2, sign * 3);
            Check.same("a half, and more", small.quantize(4), 2 + 1);
            details("a half goes to 0", small, 0, sign * 4);
            LiftingSignal odd = withDetails(sign * 7, sign * 8);
            Check.same("no halves", odd.quantize(5), 2 + 2);
            details("no halves", odd, sign * 5, sign * 10);
            LiftingSignal one = withDetails(sign * 99999, 0);
            Check.same("1 changes nothing", one.quantize(1), 0);
            details("1 changes nothing", one, sign * 99999, 0);
            LiftingSignal great = withDetails(sign * 4999, sign * 99999);
            Check.same("the greatest", great.quantize(9999), 4999 + 9);
            details("the greatest", great, 0, sign * 99990);
        }
    }

    private static void promise33KeepLargest() {
        range("keepLargest", ILLEGAL, 0, 46, number -> ReportTest.twoSteps().keepLargest(number));
        Check.same("without steps", new LiftingSignal().keepLargest(0), 0);
        LiftingSignal two = withDetails(-5, 5);
        Check.same("as many as there are: no others", two.keepLargest(2), 0);
        details("as many as there are", two, -5, 5);
        Check.same("one of two equal ones", two.keepLargest(1), 5);
        details("the lower number stays", two, -5, 0);
        Check.same("the other was 0 already", two.keepLargest(1), 0);
        Check.same("none", two.keepLargest(0), 5);
        details("none", two, 0, 0);
        LiftingSignal full = Check.loaded(TextTest.samples(48));
        full.forward(46);
        for (int step = 0; step < 46; step++) {
            full.setDetail(step, step % 2 == 0 ? -step : step);
        }
        Check.same("all of 46", full.keepLargest(46), 0);
        Check.same("45 of 46: the other is 0", full.keepLargest(45), 0);
        Check.same("44 of 46", full.keepLargest(44), 1);
        Check.same("10 of 46", full.keepLargest(10), 35);
        Check.same("36 are 0", full.count(3), 36);
        Check.same("the least that stays", full.step(36, 3), -36);
    }

    // ---- what it costs

    private static void promise34Error() {
        range("error", ILLEGAL, 0, 2, new LiftingSignal()::error);
        LiftingSignal signal = Check.loaded("at 0 -9999; at 1 9999;");
        for (int what = 0; what <= 2; what++) {
            Check.same("without a change", signal.error(what), 0);
        }
        signal.set(0, 9999);
        signal.set(1, -9999);
        Check.same("the greatest", signal.error(0), 19998);
        Check.same("the sum, without signs", signal.error(1), 2 * 19998);
        Check.same("both differ", signal.error(2), 2);
        LiftingSignal lifted = Check.loaded("at 0 0; at 1 2; at 2 0;");
        lifted.lift(1);
        Check.same("as if it was inverted", lifted.error(0), 0);
        lifted.setDetail(0, -2);
        // 2, 0, 2 for 0, 2, 0
        Check.same("with a changed detail", lifted.error(1), 6);
        Check.same("nothing changes", lifted.count(2), 1);
        LiftingSignal full = Check.loaded("update none; predict left;" + TextTest.samples(48));
        full.forward(46);
        full.setDetail(0, 7);
        Check.same("the first of 46 steps", full.error(0), 7);
        full.setDetail(0, 0);
        full.setDetail(45, -7);
        // all others are predicted from the sample of the last step, or from samples that are
        Check.same("the last of 46 steps", full.error(0), 7);
    }

    private static void promise35ErrorWith() {
        LiftingSignal signal = ReportTest.twoSteps();
        range("errorWith", ILLEGAL, 0, 9999, threshold -> signal.errorWith(threshold, false));
        Check.same("3 does not cut 3", signal.errorWith(3, false), 0);
        Check.same("4 cuts 3", signal.errorWith(4, false), 2);
        Check.same("14 does not cut 14", signal.errorWith(14, false), 2);
        Check.same("15 cuts 14", signal.errorWith(15, false), 9);
        Check.same("soft 0 changes nothing", signal.errorWith(0, true), 0);
        Check.same("soft 14 cuts all", signal.errorWith(14, true), 9);
        details("nothing changes", signal, -14, 3);
        Check.same("without steps", new LiftingSignal().errorWith(9999, true), 0);
    }

    private static void promise36BestThreshold() {
        range("bestThreshold", ILLEGAL, 0, 99999, ReportTest.twoSteps()::bestThreshold);
        LiftingSignal signal = ReportTest.twoSteps();
        Check.same("0: as much as the least", signal.bestThreshold(0), 3);
        Check.same("just less than the error of 4", signal.bestThreshold(1), 3);
        Check.same("just the error of 4", signal.bestThreshold(2), 14);
        Check.same("just the error of 15", signal.bestThreshold(9), 1000);
        for (int detail = 998; detail <= 1002; detail++) {
            LiftingSignal near = Check.loaded("update none; at 0 0; at 1 " + detail + "; at 2 0;");
            near.lift(1);
            Check.same("a detail of " + detail, near.bestThreshold(0), Math.min(detail, 1000));
            Check.same("a detail of " + detail + " and less", near.bestThreshold(detail - 1), Math.min(detail, 1000));
            Check.same("a detail of " + detail + " and as much", near.bestThreshold(detail), 1000);
        }
        LiftingSignal right = distinct();
        Check.same("46 right details, 401 and more", right.bestThreshold(0), 401);
        Check.same("one of them may be cut", right.bestThreshold(401), 402);
        LiftingSignal one = Check.loaded("update none; at 0 0; at 1 1; at 2 0;");
        one.lift(1);
        Check.same("a detail of 1", one.bestThreshold(0), 1);
        Check.same("without steps", new LiftingSignal().bestThreshold(0), 1000);
    }

    /** 46 steps with the details 401 to 446, all as they were: each one is predicted from the first sample, 0. */
    private static LiftingSignal distinct() {
        StringBuilder text = new StringBuilder("update none;predict left;at0 0;");
        for (int sample = 1; sample <= 46; sample++) {
            text.append("at").append(sample).append(' ').append(400 + sample).append(';');
        }
        LiftingSignal signal = Check.loaded(text.append("at47 0;").toString());
        // from the left, so that each one's left neighbour is the first sample
        for (int sample = 1; sample <= 46; sample++) {
            signal.lift(sample);
        }
        return signal;
    }

    private static void promise36BestThresholdOfNone() {
        LiftingSignal far = Check.loaded("at 0 0; at 1 0;");
        far.set(1, 1);
        Check.refused("no threshold mends it", NO_ELEMENT, () -> far.bestThreshold(0));
        Check.same("with as much", far.bestThreshold(1), 1000);
        LiftingSignal full = Check.loaded(TextTest.samples(48));
        full.forward(46);
        for (int step = 0; step < 46; step++) {
            full.setDetail(step, 1000 - step);
        }
        Check.same("46 wrong details of up to 1000", full.bestThreshold(99999), 1000);
        Check.refused("1000 is not cut", NO_ELEMENT, () -> full.bestThreshold(0));
        full.setDetail(0, 999);
        Check.same("all are cut", full.bestThreshold(0), 1000);
        full.set(0, 1);
        Check.refused("and a value is wrong", NO_ELEMENT, () -> full.bestThreshold(0));
    }

    private static void promises37And38Schemes() {
        LiftingSignal signal = Check.loaded(FOUR);
        range("bitsBy's split", ILLEGAL, 0, 2, split -> signal.bitsBy(split, 0));
        range("bitsBy's predict", ILLEGAL, 0, 2, predict -> signal.bitsBy(0, predict));
        Check.same("two samples have no bits", new LiftingSignal().bitsBy(2, 2), 0);
        Check.same("of equal ones the lowest", new LiftingSignal().bestScheme(), 0);
        Check.same("46 details of 0", Check.loaded(TextTest.samples(48)).bitsBy(1, 1), 46);
        signal.set(1, -9999);
        signal.forward(46);
        signal.setSplit(1);
        signal.setPredict(0);
        Check.same("original values, all present", signal.bitsBy(0, 2), 8);
        Check.same("not the settings that are set", signal.bestScheme(), 2);
        Check.same("nothing changes", signal.count(2), 2);
        LiftingSignal least = Check.loaded("least 4;" + FOUR);
        Check.same("least as it is", least.bitsBy(0, 2), 0);
    }

    /** Each row's bits, from the model; of equal ones the lowest scheme is the best. */
    private static void promise38EachScheme() {
        schemes("at 0 8; at 1 7; at 4 13; at 7 1;", 0, 6, 7, 8, 6, 7, 8, 6, 7, 8);
        schemes("at 0 16; at 3 18; at 7 3; at 8 4;", 1, 9, 4, 7, 8, 5, 7, 8, 4, 7);
        schemes("at 0 8; at 2 13; at 3 4; at 5 6;", 2, 8, 8, 6, 8, 8, 6, 8, 8, 8);
        schemes("at 0 3; at 3 18; at 6 6; at 8 13;", 3, 10, 9, 10, 6, 8, 7, 10, 9, 10);
        schemes("at 0 12; at 4 18; at 8 5; at 11 6;", 4, 6, 6, 8, 9, 5, 7, 9, 6, 8);
        schemes("at 0 0; at 2 10; at 3 16; at 4 8;", 5, 9, 9, 9, 10, 8, 6, 9, 8, 6);
        schemes("at 0 12; at 1 4; at 3 5; at 5 11;", 6, 9, 10, 9, 9, 10, 9, 7, 7, 8);
        schemes("at 0 4; at 3 13; at 7 17; at 10 17;", 7, 10, 8, 8, 10, 8, 8, 9, 6, 7);
        schemes("at 0 12; at 3 18; at 6 16; at 9 14;", 8, 7, 7, 8, 7, 7, 8, 7, 7, 5);
    }

    /** The scheme with the fewest bits is the one that bitsBy() tells, with 48 samples, too. */
    private static void promise38OfFullSignals() {
        for (int seed = 0; seed < 40; seed++) {
            java.util.Random random = new java.util.Random(seed);
            StringBuilder text = new StringBuilder();
            int position = 0;
            for (int sample = 0; sample < 48; sample++) {
                text.append("at").append(position).append(' ').append(random.nextInt(1 << seed % 10)).append(';');
                position += 1 + random.nextInt(1 + seed / 10);
            }
            LiftingSignal signal = Check.loaded(text.toString());
            int best = 0;
            for (int scheme = 1; scheme < 9; scheme++) {
                if (signal.bitsBy(scheme / 3, scheme % 3) < signal.bitsBy(best / 3, best % 3)) {
                    best = scheme;
                }
            }
            Check.same("bestScheme of signal " + seed, signal.bestScheme(), best);
            signal.setSplit(best / 3);
            signal.setPredict(best % 3);
            signal.forward(46);
            Check.same("its bits", signal.bits(), signal.bitsBy(best / 3, best % 3));
        }
    }

    private static void schemes(String text, int best, int... bits) {
        LiftingSignal signal = Check.loaded(text);
        Check.same(text + " bestScheme", signal.bestScheme(), best);
        for (int scheme = 0; scheme < 9; scheme++) {
            Check.same(text + " bitsBy of " + scheme, signal.bitsBy(scheme / 3, scheme % 3), bits[scheme]);
        }
    }

    // ---- reasons and saved states

    private static void promises39And40Reasons() {
        LiftingSignal signal = Check.loaded(FOUR);
        range("reason", ILLEGAL, 0, 1, signal::reason);
        Check.same("no exception", signal.reason(0), 0);
        Check.same("no cause", signal.reason(1), 0);
        Check.same("no sample", signal.reasonSample(), NONE);
        Check.refused("lift(0)", STATE, () -> signal.lift(0));
        Check.same("the sample 0", signal.reasonSample(), 0);
        Check.refused("inverse", STATE, () -> signal.inverse(1));
        Check.same("no cause for code 2", signal.reason(1), 0);
        Check.same("no sample for code 2", signal.reasonSample(), NONE);
    }

    private static void promises41And42Slots() {
        LiftingSignal signal = Check.loaded(FOUR);
        range("save", NO_INDEX, 0, 1, signal::save);
        range("restore", NO_INDEX, 0, 1, signal::restore);
        LiftingSignal empty = new LiftingSignal();
        Check.refused("nothing in slot 0", NO_ELEMENT, () -> empty.restore(0));
        Check.refused("nothing in slot 1", NO_ELEMENT, () -> empty.restore(1));
        empty.save(1);
        Check.refused("still nothing in slot 0", NO_ELEMENT, () -> empty.restore(0));
        LiftingSignal full = Check.loaded(TextTest.samples(48));
        full.noise(9, 999);
        full.setSplit(2);
        full.setPredict(1);
        full.setUpdate(false);
        full.forward(46);
        full.setDetail(45, 99999);
        String before = Check.fingerprint(full);
        full.save(1);
        full.reset();
        full.setSplit(0);
        full.setPredict(0);
        full.setUpdate(true);
        full.restore(1);
        Check.same("46 steps", Check.fingerprint(full), before);
        full.inverse(46);
        full.restore(1);
        Check.same("it stays saved", Check.fingerprint(full), before);
        Check.same("and the integral", full.integral(), integralOf(full));
    }

    private static long integralOf(LiftingSignal signal) {
        long sum = signal.drift();
        for (int index = 0; index < signal.count(1); index++) {
            sum += signal.sample(signal.present(index), 3) * signal.sample(signal.present(index), 4);
        }
        return sum;
    }
}
