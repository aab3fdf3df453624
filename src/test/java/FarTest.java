import java.math.BigInteger;
import java.util.NoSuchElementException;

/**
 * "All numbers are integers unless a method returns double; values and details can be greater than an int": values near
 * the end of what a long can hold, and numbers beyond it in between or in a detail, must not spoil an answer that the
 * document determines. After 29 rounds the values are GREAT (samples 0 and 1) and LOW (2 to 5), the weights those at
 * first; what is due is worked out with numbers of any size.
 */
public final class FarTest {
    private static final String SIX =
            "predict near; at 0 9999; at 5591 9999; at 5592 -9999; at 5593 9999; at 5594 -9999; at 7922 9999;";
    private static final long GREAT = 5806140423950788745L;
    private static final long LOW = -5333835792846131266L;
    private static final int MIDDLE = 6408;

    public static void main(String[] args) {
        theValuesAreFar();
        promise12ValueAt();
        linearDetails();
        theIntegralStays();
        promise15Mean();
        promise16PlainMean();
        promise18BitsOfADetailBeyondALong();
        promise20NextByDetail();
        promise31Threshold();
        promise32Quantize();
        promise33KeepLargest();
        promises34To36Errors();
        promise42Restore();
        Check.end();
    }

    private static LiftingSignal far() {
        LiftingSignal signal = Check.loaded(SIX);
        for (int round = 0; round < 29; round++) {
            signal.lift(1);
            signal.lift(2);
            signal.setPredict(0);
            signal.setUpdate(false);
            signal.lift(3);
            signal.keepLargest(0);
            signal.inverse(46);
            signal.setUpdate(true);
            signal.lift(4);
            signal.lift(1);
            signal.lift(3);
            signal.setPredict(1);
            signal.lift(2);
            signal.keepLargest(0);
            signal.inverse(46);
        }
        return signal;
    }

    /** Sample 2 is lifted by left, its neighbours stay: the detail is LOW - GREAT, beyond what a long can hold. */
    private static LiftingSignal withFarDetail() {
        LiftingSignal signal = far();
        signal.setPredict(0);
        signal.setUpdate(false);
        signal.lift(2);
        return signal;
    }

    private static void theValuesAreFar() {
        LiftingSignal signal = far();
        Check.values("far", signal, GREAT, GREAT, LOW, LOW, LOW, LOW);
        Check.same("a value set tells the previous one", signal.set(2, 0), LOW);
        Check.same("noise adds to far values", signal.noise(0, 0), 2 * GREAT + 3 * LOW);
    }

    private static void promise12ValueAt() {
        LiftingSignal signal = far();
        signal.setUpdate(false);
        signal.lift(1);
        Check.same("at the first one", signal.valueAt(0), GREAT);
        Check.same("behind it", signal.valueAt(2796), 236152315552328739L);
        Check.same("before the second one", signal.valueAt(5591), -5331843665482612504L);
        Check.same("at the second one", signal.valueAt(5592), LOW);
        Check.same("between equal ones", signal.valueAt(7000), LOW);
    }

    private static void linearDetails() {
        LiftingSignal signal = far();
        signal.setPredict(2);
        signal.set(1, 0);
        signal.setUpdate(false);
        Check.same("a linear detail", signal.lift(1), 5331843665482612504L);
        signal.inverse(1);
        Check.values("inverted", signal, GREAT, 0, LOW);
        signal.setUpdate(true);
        signal.lift(1);
        signal.inverse(1);
        Check.values("inverted with an update", signal, GREAT, 0, LOW);
    }

    private static void theIntegralStays() {
        LiftingSignal signal = far();
        Check.same("the integral", signal.integral(), Check.loaded(SIX).integral());
        signal.forward(46);
        Check.same("with steps", signal.integral(), Check.loaded(SIX).integral());
        signal.reset();
        Check.same("reset", signal.drift(), 0);
    }

    /** The integral is 10667671585804071350 then, which no long can hold; the weights are 15844, the divisor is 2. */
    private static void promise15Mean() {
        LiftingSignal signal = far();
        signal.set(2, 0);
        Check.same("mean(0)", signal.mean(0), 5333835792902035675L);
        Check.same("mean(1)", signal.mean(1), 7922);
        // 10667671585804051352 then: the divisor is 68
        signal.set(2, -9999);
        Check.same("mean(0) of another one", signal.mean(0), 156877523320647814L);
        Check.same("mean(1) of another one", signal.mean(1), 233);
    }

    private static void promise16PlainMean() {
        LiftingSignal signal = far();
        Check.sameDouble("plainMean", signal.plainMean(), -9723062323482947574.0 / 6);
        signal.set(0, 0);
        signal.set(1, 0);
        Check.sameDouble("plainMean of a sum beyond a long", signal.plainMean(), -21335343171384525064.0 / 6);
        // doubles are 4096 apart there: the sum lies in the middle of two, or a little beside it
        for (int beside = -9; beside <= 9; beside++) {
            signal.set(0, MIDDLE - beside);
            BigInteger sum = BigInteger.valueOf(LOW).multiply(BigInteger.valueOf(4)).add(BigInteger.valueOf(MIDDLE - beside));
            Check.sameDouble("plainMean beside the middle of two doubles", signal.plainMean(), sum.doubleValue() / 6);
        }
    }

    private static void promise18BitsOfADetailBeyondALong() {
        LiftingSignal signal = withFarDetail();
        Check.same("bits", signal.bits(), 1 + 64);
        Check.same("it is not 0", signal.count(3), 0);
        signal.lift(1);
        Check.same("bits with a detail of 0", signal.bits(), 1 + 64 + 1);
        Check.same("largest(0)", signal.largest(0), 0);
        signal.setDetail(1, -99999);
        Check.same("largest(0) beside another one", signal.largest(0), 0);
        signal.inverse(2);
        Check.values("inverted", signal, GREAT, GREAT - 99999, LOW - 99999, LOW, LOW, LOW);
    }

    /** Each would-be detail is compared as it is: 0, LOW - GREAT, 0 and 0 by left. */
    private static void promise20NextByDetail() {
        LiftingSignal signal = far();
        signal.setSplit(2);
        signal.setPredict(0);
        Check.same("0", signal.next(), 1);
        signal.set(1, 9999);
        Check.same("9999 - GREAT, LOW - 9999 and 0", signal.next(), 3);
        signal.set(3, 1);
        signal.set(4, 0);
        Check.same("and -1", signal.next(), 4);
        // 9999 - GREAT is lifted before LOW - GREAT
        signal.lift(4);
        signal.lift(3);
        signal.set(5, 0);
        signal.set(1, 0);
        Check.same("0 - GREAT and LOW", signal.next(), 2);
    }

    private static void promise31Threshold() {
        LiftingSignal hard = withFarDetail();
        Check.same("it is not cut", hard.threshold(9999, false), 0);
        hard.inverse(1);
        Check.values("as it was", hard, GREAT, GREAT, LOW, LOW, LOW, LOW);
        LiftingSignal soft = withFarDetail();
        Check.same("it decreases", soft.threshold(9999, true), 0);
        soft.inverse(1);
        Check.values("less low by that", soft, GREAT, GREAT, LOW + 9999, LOW, LOW, LOW);
    }

    private static void promise32Quantize() {
        LiftingSignal signal = withFarDetail();
        // 11139976216796920011 % 9999 = 2961
        Check.same("the change", signal.quantize(9999), 2961);
        signal.inverse(1);
        Check.values("less low by that", signal, GREAT, GREAT, LOW + 2961, LOW, LOW, LOW);
    }

    private static void promise33KeepLargest() {
        LiftingSignal signal = withFarDetail();
        signal.lift(1);
        signal.setDetail(1, 99999);
        Check.same("the far one stays", signal.keepLargest(1), 99999);
        Check.same("one is 0", signal.count(3), 1);
        Check.same("bits", signal.bits(), 1 + 64 + 1);
        signal.keepLargest(0);
        Check.same("both are 0", signal.count(3), 2);
        signal.inverse(2);
        Check.values("sample 2 is as its left neighbour", signal, GREAT, GREAT, GREAT, LOW);
    }

    private static void promises34To36Errors() {
        LiftingSignal signal = withFarDetail();
        Check.same("error(0)", signal.error(0), GREAT - 9999);
        Check.same("error(2)", signal.error(2), 6);
        Check.same("errorWith", signal.errorWith(9999, false), GREAT - 9999);
        Check.refused("bestThreshold", NoSuchElementException.class, () -> signal.bestThreshold(99999));
        LiftingSignal none = Check.loaded(SIX);
        none.setUpdate(false);
        Check.same("bitsBy is of the original values", signal.bitsBy(0, 1), none.bitsBy(0, 1));
        signal.reset();
        Check.same("reset", signal.error(2), 0);
    }

    private static void promise42Restore() {
        LiftingSignal signal = withFarDetail();
        signal.save(0);
        signal.reset();
        signal.restore(0);
        Check.same("bits", signal.bits(), 1 + 64);
        signal.inverse(1);
        Check.values("inverted", signal, GREAT, GREAT, LOW, LOW, LOW, LOW);
        Check.same("the integral", signal.integral(), Check.loaded(SIX).integral());
    }
}
