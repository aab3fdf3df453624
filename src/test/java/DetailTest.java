import java.util.NoSuchElementException;

/**
 * Promises 30 to 38: details and what it costs. The answers that are due are worked out by hand; the two steps of
 * ReportTest have the details -14 and 3.
 */
public final class DetailTest {
    private static final Class<IllegalArgumentException> ILLEGAL = IllegalArgumentException.class;
    private static final Class<IndexOutOfBoundsException> NO_INDEX = IndexOutOfBoundsException.class;
    private static final String FOUR = ReportTest.FOUR;

    public static void main(String[] args) {
        promise30SetDetail();
        promise31Threshold();
        promise32Quantize();
        promise33KeepLargest();
        promise34Error();
        promise35ErrorWith();
        promise36BestThreshold();
        promise37BitsBy();
        promise38BestScheme();
        costsChangeNothing();
        Check.end();
    }

    private static void details(String when, LiftingSignal signal, long... due) {
        for (int step = 0; step < due.length; step++) {
            Check.same(when + ": detail of step " + step, signal.step(step, 3), due[step]);
        }
    }

    private static void promise30SetDetail() {
        LiftingSignal signal = ReportTest.twoSteps();
        Check.same("setDetail(0, 99999)", signal.setDetail(0, 99999), -14);
        Check.same("setDetail(0, -99999)", signal.setDetail(0, -99999), 99999);
        Check.same("setDetail(1, 0)", signal.setDetail(1, 0), 3);
        details("set", signal, -99999, 0);
        Check.refused("setDetail(2, 0)", NO_INDEX, () -> signal.setDetail(2, 0));
        Check.refused("setDetail(-1, 100000)", NO_INDEX, () -> signal.setDetail(-1, 100000));
        Check.refused("setDetail(0, 100000)", ILLEGAL, () -> signal.setDetail(0, 100000));
        Check.refused("setDetail(0, -100000)", ILLEGAL, () -> signal.setDetail(0, -100000));
        details("refused", signal, -99999, 0);
    }

    private static void promise31Threshold() {
        LiftingSignal signal = ReportTest.twoSteps();
        Check.same("threshold(0, true)", signal.threshold(0, true), 0);
        details("threshold(0, true)", signal, -14, 3);
        Check.same("threshold(3, false)", signal.threshold(3, false), 0);
        details("threshold(3, false)", signal, -14, 3);
        Check.same("threshold(4, false)", signal.threshold(4, false), 1);
        details("threshold(4, false)", signal, -14, 0);
        signal.setDetail(1, 3);
        Check.same("threshold(2, true)", signal.threshold(2, true), 0);
        details("threshold(2, true)", signal, -12, 1);
        Check.same("threshold(12, true)", signal.threshold(12, true), 2);
        details("threshold(12, true)", signal, 0, 0);
        signal.setDetail(0, 9999);
        Check.same("threshold(9999, false)", signal.threshold(9999, false), 1);
        Check.refused("threshold(10000)", ILLEGAL, () -> signal.threshold(10000, false));
        Check.refused("threshold(-1)", ILLEGAL, () -> signal.threshold(-1, true));
        Check.same("threshold without steps", new LiftingSignal().threshold(5, true), 0);
    }

    private static void promise32Quantize() {
        int[][] due = {{14, 4, 12}, {-14, 4, -12}, {15, 4, 16}, {-15, 4, -16}, {13, 4, 12}, {-13, 4, -12}, {2, 4, 0},
            {-2, 4, 0}, {3, 5, 5}, {-3, 5, -5}, {2, 5, 0}, {7, 1, 7}, {4999, 9999, 0}, {5000, 9999, 9999}, {0, 7, 0}};
        LiftingSignal signal = ReportTest.twoSteps();
        for (int[] row : due) {
            signal.setDetail(0, row[0]);
            signal.setDetail(1, 0);
            String call = "quantize(" + row[1] + ") of " + row[0];
            Check.same(call, signal.quantize(row[1]), Math.abs(row[2] - row[0]));
            details(call, signal, row[2], 0);
        }
        LiftingSignal two = ReportTest.twoSteps();
        Check.same("quantize(4)", two.quantize(4), 3);
        details("quantize(4)", two, -12, 4);
        Check.refused("quantize(0)", ILLEGAL, () -> two.quantize(0));
        Check.refused("quantize(-1)", ILLEGAL, () -> two.quantize(-1));
        Check.refused("quantize(10000)", ILLEGAL, () -> two.quantize(10000));
    }

    private static void promise33KeepLargest() {
        LiftingSignal signal = ReportTest.twoSteps();
        Check.same("keepLargest(46)", signal.keepLargest(46), 0);
        Check.same("keepLargest(2)", signal.keepLargest(2), 0);
        details("keepLargest(2)", signal, -14, 3);
        Check.same("keepLargest(1)", signal.keepLargest(1), 3);
        details("keepLargest(1)", signal, -14, 0);
        Check.same("keepLargest(1) again", signal.keepLargest(1), 0);
        signal.setDetail(1, 14);
        Check.same("keepLargest(1) of equal ones", signal.keepLargest(1), 14);
        details("keepLargest(1) of equal ones", signal, -14, 0);
        signal.setDetail(1, 20);
        Check.same("keepLargest(1) of the second", signal.keepLargest(1), 14);
        details("keepLargest(1) of the second", signal, 0, 20);
        Check.same("keepLargest(0)", signal.keepLargest(0), 20);
        details("keepLargest(0)", signal, 0, 0);
        Check.refused("keepLargest(-1)", ILLEGAL, () -> signal.keepLargest(-1));
        Check.refused("keepLargest(47)", ILLEGAL, () -> signal.keepLargest(47));
        Check.same("keepLargest(0) without steps", new LiftingSignal().keepLargest(0), 0);
    }

    private static void errors(String when, LiftingSignal signal, long greatest, long sum, long number) {
        Check.same(when + ": error(0)", signal.error(0), greatest);
        Check.same(when + ": error(1)", signal.error(1), sum);
        Check.same(when + ": error(2)", signal.error(2), number);
    }

    private static void promise34Error() {
        LiftingSignal signal = ReportTest.twoSteps();
        errors("two steps", signal, 0, 0, 0);
        // 11 and 17 give 13 for sample 1; -14 takes back -7 and -4: 11, 20, 6, 21 for 10, 22, 6, 20
        signal.setDetail(1, 0);
        errors("without the 3", signal, 2, 4, 3);
        // 11, 13, 15, 17
        signal.setDetail(0, 0);
        errors("without details", signal, 9, 1 + 9 + 9 + 3, 4);
        Check.refused("error(3)", ILLEGAL, () -> signal.error(3));
        Check.refused("error(-1)", ILLEGAL, () -> signal.error(-1));
        LiftingSignal set = Check.loaded(FOUR);
        errors("no steps", set, 0, 0, 0);
        set.set(0, -10);
        set.set(3, 21);
        errors("values set", set, 20, 21, 2);
    }

    private static void promise35ErrorWith() {
        LiftingSignal signal = ReportTest.twoSteps();
        Check.same("errorWith(0, true)", signal.errorWith(0, true), 0);
        Check.same("errorWith(3, false)", signal.errorWith(3, false), 0);
        Check.same("errorWith(4, false)", signal.errorWith(4, false), 2);
        Check.same("errorWith(14, false)", signal.errorWith(14, false), 2);
        Check.same("errorWith(15, false)", signal.errorWith(15, false), 9);
        Check.same("errorWith(9999, true)", signal.errorWith(9999, true), 9);
        // -11 takes back -5 and -3 from 13 and 17: 11, 18, 8, 20
        Check.same("errorWith(3, true)", signal.errorWith(3, true), 4);
        Check.refused("errorWith(10000)", ILLEGAL, () -> signal.errorWith(10000, false));
        Check.refused("errorWith(-1)", ILLEGAL, () -> signal.errorWith(-1, false));
    }

    private static void promise36BestThreshold() {
        LiftingSignal signal = ReportTest.twoSteps();
        Check.same("bestThreshold(0)", signal.bestThreshold(0), 3);
        Check.same("bestThreshold(1)", signal.bestThreshold(1), 3);
        Check.same("bestThreshold(2)", signal.bestThreshold(2), 14);
        Check.same("bestThreshold(8)", signal.bestThreshold(8), 14);
        Check.same("bestThreshold(9)", signal.bestThreshold(9), 1000);
        Check.same("bestThreshold(99999)", signal.bestThreshold(99999), 1000);
        Check.refused("bestThreshold(-1)", ILLEGAL, () -> signal.bestThreshold(-1));
        Check.refused("bestThreshold(100000)", ILLEGAL, () -> signal.bestThreshold(100000));
        Check.same("without steps", new LiftingSignal().bestThreshold(0), 1000);
        LiftingSignal set = Check.loaded(FOUR);
        set.set(0, 1000);
        Check.refused("a value set", NoSuchElementException.class, () -> set.bestThreshold(989));
        Check.same("a value set, as much as that", set.bestThreshold(990), 1000);
        set.lift(1);
        Check.refused("with a step", NoSuchElementException.class, () -> set.bestThreshold(0));
        LiftingSignal great = Check.loaded("at 0 0; at 1 5000; at 2 0;");
        great.forward(1);
        Check.same("at most 1000", great.bestThreshold(0), 1000);
        LiftingSignal thousand = Check.loaded("at 0 0; at 1 1000; at 2 0;");
        thousand.forward(1);
        Check.same("1000 does not cut 1000", thousand.bestThreshold(0), 1000);
        LiftingSignal less = Check.loaded("at 0 0; at 1 999; at 2 0;");
        less.forward(1);
        Check.same("1000 cuts 999", less.bestThreshold(0), 999);
        // a cut that makes it good again: the changed detail is cut to 0, and 0 was right
        LiftingSignal flat = Check.loaded("at 0 0; at 1 0; at 2 0;");
        flat.forward(1);
        flat.setDetail(0, 600);
        Check.same("only great thresholds do", flat.bestThreshold(0), 1000);
        flat.setDetail(0, 2000);
        Check.refused("2000 is not cut", NoSuchElementException.class, () -> flat.bestThreshold(0));
    }

    private static void promise37BitsBy() {
        LiftingSignal signal = Check.loaded(FOUR);
        // span: -16 and 5, -14 and 6, -14 and 3; dyadic and detail: 12 and -7, 12 and -11, 14 and -7
        int[] due = {10, 9, 8, 9, 10, 9, 9, 10, 9};
        signal.set(0, 500);
        signal.forward(1);
        for (int scheme = 0; scheme < 9; scheme++) {
            Check.same("bitsBy of " + scheme, signal.bitsBy(scheme / 3, scheme % 3), due[scheme]);
        }
        signal.setUpdate(false);
        // -16 and 12, -14 and 8
        Check.same("bitsBy(0, 0) without an update", signal.bitsBy(0, 0), 11);
        Check.same("bitsBy(0, 2) without an update", signal.bitsBy(0, 2), 10);
        Check.same("bitsBy with least", Check.loaded("least 3;" + FOUR).bitsBy(0, 2), 5);
        Check.same("bitsBy with a great least", Check.loaded("least 4;" + FOUR).bitsBy(0, 2), 0);
        Check.refused("bitsBy(3, 0)", ILLEGAL, () -> signal.bitsBy(3, 0));
        Check.refused("bitsBy(-1, 0)", ILLEGAL, () -> signal.bitsBy(-1, 0));
        Check.refused("bitsBy(0, 3)", ILLEGAL, () -> signal.bitsBy(0, 3));
        Check.refused("bitsBy(0, -1)", ILLEGAL, () -> signal.bitsBy(0, -1));
    }

    private static void promise38BestScheme() {
        Check.same("bestScheme", Check.loaded(FOUR).bestScheme(), 2);
        Check.same("bestScheme of equal ones", new LiftingSignal().bestScheme(), 0);
        // span lifts 2 first, its detail is 0; for 1, left has 9, near 0, linear 9 - floor(9 * 5 / 7) = 3
        Check.same("bestScheme of a stair", Check.loaded("at 0 0; at 5 9; at 6 9; at 7 9;").bestScheme(), 1);
        // span lifts only 2: left -5, near -14, linear -11; dyadic only 1: left 1, near 1
        Check.same("bestScheme with least", Check.loaded("least 3; at 0 10; at 4 11; at 8 6; at 10 20;").bestScheme(), 3);
    }

    private static void costsChangeNothing() {
        LiftingSignal signal = ReportTest.twoSteps();
        signal.setSplit(1);
        signal.setPredict(1);
        signal.setUpdate(false);
        signal.setDetail(0, 7);
        String before = Check.fingerprint(signal);
        signal.error(0);
        signal.errorWith(5, true);
        signal.bestThreshold(99999);
        signal.bitsBy(2, 0);
        signal.bestScheme();
        Check.same("the costs change nothing", Check.fingerprint(signal), before);
    }
}
