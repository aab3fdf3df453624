/** Promises 21 to 29: settings, samples and steps. The answers that are due are worked out by hand. */
public final class StepTest {
    private static final Class<IllegalArgumentException> ILLEGAL = IllegalArgumentException.class;
    private static final Class<IndexOutOfBoundsException> NO_INDEX = IndexOutOfBoundsException.class;
    private static final Class<IllegalStateException> STATE = IllegalStateException.class;
    private static final String FOUR = ReportTest.FOUR;

    public static void main(String[] args) {
        promise21SetSplit();
        promise22SetPredict();
        promise23SetUpdate();
        promise24Set();
        promise25Noise();
        promise26Reset();
        promise27Forward();
        promise27SplitRules();
        promise28LiftLinear();
        promise28LiftLeft();
        promise28LiftNear();
        promise28LiftNone();
        promise28LiftElsewhere();
        promise28Refused();
        promise29Inverse();
        promise29KeepsTheRules();
        Check.end();
    }

    private static void promise21SetSplit() {
        LiftingSignal signal = new LiftingSignal();
        Check.same("setSplit(2)", signal.setSplit(2), 0);
        Check.same("setSplit(1)", signal.setSplit(1), 2);
        Check.same("split", signal.count(4), 1);
        Check.refused("setSplit(3)", ILLEGAL, () -> signal.setSplit(3));
        Check.refused("setSplit(-1)", ILLEGAL, () -> signal.setSplit(-1));
        Check.same("split stays", signal.setSplit(0), 1);
    }

    private static void promise22SetPredict() {
        LiftingSignal signal = new LiftingSignal();
        Check.same("setPredict(0)", signal.setPredict(0), 2);
        Check.same("setPredict(1)", signal.setPredict(1), 0);
        Check.same("predict", signal.count(5), 1);
        Check.refused("setPredict(3)", ILLEGAL, () -> signal.setPredict(3));
        Check.refused("setPredict(-1)", ILLEGAL, () -> signal.setPredict(-1));
        Check.same("predict stays", signal.setPredict(2), 1);
    }

    private static void promise23SetUpdate() {
        LiftingSignal signal = new LiftingSignal();
        Check.same("setUpdate(true)", signal.setUpdate(true), true);
        Check.same("setUpdate(false)", signal.setUpdate(false), true);
        Check.same("update", signal.count(6), 0);
        Check.same("setUpdate(true) again", signal.setUpdate(true), false);
        Check.same("update again", signal.count(6), 1);
    }

    private static void promise24Set() {
        LiftingSignal signal = Check.loaded(FOUR);
        Check.same("set(1, -9999)", signal.set(1, -9999), 22);
        Check.same("set(1, 9999)", signal.set(1, 9999), -9999);
        Check.same("set(0, 1)", signal.set(0, 1), 10);
        Check.values("set", signal, 1, 9999, 6, 20);
        Check.same("the original value stays", signal.sample(1, 1), 22);
        signal.lift(2);
        String before = Check.fingerprint(signal);
        Check.refused("set(4, 10000)", NO_INDEX, () -> signal.set(4, 10000));
        Check.refused("set(-1, 0)", NO_INDEX, () -> signal.set(-1, 0));
        Check.refused("set(0, 10000)", ILLEGAL, () -> signal.set(0, 10000));
        Check.refused("set(0, -10000)", ILLEGAL, () -> signal.set(0, -10000));
        Check.refused("set(2, 10000)", ILLEGAL, () -> signal.set(2, 10000));
        Check.same("no reason yet", signal.reason(0), 0);
        Check.refused("set(2, 0)", STATE, () -> signal.set(2, 0));
        Check.same("the reason", signal.reason(0), 6);
        Check.same("a refused set changes nothing", Check.fingerprint(signal), before);
    }

    private static void promise25Noise() {
        // 1 * 1103515245 + 12345 = 1103527590, 16838 % 11 - 5 = 3; then 2524885223 (below 0 as an int),
        // 38526 % 11 - 5 = -1
        LiftingSignal signal = new LiftingSignal();
        Check.same("noise(1, 5)", signal.noise(1, 5), 2);
        Check.values("noise", signal, 3, -1);
        Check.same("the original value stays", signal.sample(0, 1), 0);
        Check.same("noise adds", signal.noise(1, 5), 4);
        Check.same("noise without level", signal.noise(77, 0), 4);
        // 12345 >>> 16 = 0, 0 % 1999 - 999 = -999; then 12345 * 1103515245 + 12345 = 3554416254,
        // 54236 % 1999 - 999 = 263 - 999 = -736
        Check.same("noise(0, 999)", signal.noise(0, 999), 4 - 999 - 736);
        Check.refused("noise(1, 1000)", ILLEGAL, () -> signal.noise(1, 1000));
        Check.refused("noise(1, -1)", ILLEGAL, () -> signal.noise(1, -1));
        LiftingSignal lifted = Check.loaded(FOUR);
        lifted.lift(1);
        String before = Check.fingerprint(lifted);
        Check.refused("noise(1, 1000) with steps", ILLEGAL, () -> lifted.noise(1, 1000));
        Check.refused("noise(1, 5) with steps", STATE, () -> lifted.noise(1, 5));
        Check.same("the reason", lifted.reason(0), 7);
        Check.same("a refused noise changes nothing", Check.fingerprint(lifted), before);
        lifted.inverse(1);
        lifted.noise(1, 5);
        LiftingSignal most = Check.loaded(TextTest.samples(48));
        long sum = most.noise(4711, 999);
        for (int sample = 0; sample < 48; sample++) {
            sum -= most.sample(sample, 3);
        }
        Check.same("the sum of 48 values", sum, 0);
    }

    private static void promise26Reset() {
        LiftingSignal signal = Check.loaded(FOUR);
        String before = Check.fingerprint(signal);
        Check.same("reset without steps", signal.reset(), 0);
        signal.noise(5, 100);
        signal.save(0);
        signal.forward(46);
        Check.same("reset", signal.reset(), 2);
        Check.same("reset brings all back", Check.fingerprint(signal), before);
        signal.setSplit(1);
        signal.setPredict(0);
        signal.setUpdate(false);
        signal.lift(1);
        Check.same("reset after one step", signal.reset(), 1);
        Check.same("split stays", signal.count(4), 1);
        Check.same("predict stays", signal.count(5), 0);
        Check.same("update stays", signal.count(6), 0);
        Check.same("drift is gone", signal.drift(), 0);
        signal.restore(0);
    }

    private static void promise27Forward() {
        LiftingSignal signal = Check.loaded(FOUR);
        Check.refused("forward(0)", ILLEGAL, () -> signal.forward(0));
        Check.refused("forward(47)", ILLEGAL, () -> signal.forward(47));
        Check.same("forward(1)", signal.forward(1), 1);
        Check.same("the sample", signal.step(0, 0), 2);
        Check.same("forward(46)", signal.forward(46), 1);
        Check.same("like two steps", Check.fingerprint(signal), Check.fingerprint(ReportTest.twoSteps()));
        String before = Check.fingerprint(signal);
        Check.refused("forward(-1) without inner samples", ILLEGAL, () -> signal.forward(-1));
        Check.same("no reason yet", signal.reason(0), 0);
        Check.refused("forward(1) without inner samples", STATE, () -> signal.forward(1));
        Check.same("the reason", signal.reason(0), 1);
        Check.same("a refused forward changes nothing", Check.fingerprint(signal), before);
        LiftingSignal least = Check.loaded("least 3;" + FOUR);
        Check.same("forward with least", least.forward(46), 1);
        Check.same("present then", least.count(1), 3);
        Check.refused("forward at least", STATE, () -> least.forward(1));
        LiftingSignal most = Check.loaded(TextTest.samples(48));
        Check.same("forward(46) of 48", most.forward(46), 46);
        Check.same("two are left", most.count(1), 2);
    }

    private static void order(String when, LiftingSignal signal, int... due) {
        signal.forward(46);
        for (int step = 0; step < due.length; step++) {
            Check.same(when + ": sample of step " + step, signal.step(step, 0), due[step]);
        }
    }

    private static void promise27SplitRules() {
        String nine = "at 0 0; at 1 0; at 2 0; at 3 0; at 4 0; at 5 0; at 6 0; at 7 0; at 8 0;";
        // 1 has the span 2; then 3 (2 has the span 3); then 5, 7; then 2 (span 4) before 4 and 6; then 6 (4, as 4 has 6)
        order("span", Check.loaded(nine), 1, 3, 5, 7, 2, 6, 4);
        order("dyadic", Check.loaded("split dyadic;" + nine), 1, 3, 5, 7, 2, 6, 4);
        order("span of other positions", Check.loaded("at 0 0; at 3 0; at 5 0; at 9 0; at 10 0;"), 1, 3, 2);
        order("dyadic of other positions", Check.loaded("split dyadic; at 0 0; at 3 0; at 5 0; at 6 0; at 7 0;"), 1, 3, 2);
        // left: the details are 5, 2, -3; then, without an update, 5, and -1 over the lifted 2
        order("detail", Check.loaded("split detail; predict left; update none; at 0 0; at 1 5; at 2 7; at 3 4; at 4 0;"),
                2, 3, 1);
    }

    private static void step(String when, LiftingSignal signal, int sample, long... due) {
        Check.same(when + ": detail", signal.lift(sample), due[0]);
        int step = signal.count(2) - 1;
        Check.same(when + ": share", signal.step(step, 5), due[1]);
        int left = (int) signal.step(step, 1);
        int right = (int) signal.step(step, 2);
        Check.same(when + ": weight on the left", signal.sample(left, 4), due[2]);
        Check.same(when + ": weight on the right", signal.sample(right, 4), due[3]);
        Check.same(when + ": value on the left", signal.sample(left, 3), due[4]);
        Check.same(when + ": value on the right", signal.sample(right, 3), due[5]);
        Check.same(when + ": drift", signal.drift(), due[6]);
        Check.same(when + ": integral", signal.integral(), 292);
    }

    private static void promise28LiftLinear() {
        LiftingSignal signal = Check.loaded(FOUR);
        step("linear, 2", signal, 2, -14, 2, 10, 6, 15, 16, 6);
        step("linear, then 1", signal, 1, 3, 6, 10, 10, 11, 17, 12);
        // d = 22 - (10 + floor(-4 * 4 / 8)) = 14, s = 4; floor(896 / 164) = 5, floor(1120 / 164) = 6
        step("linear, 1", Check.loaded(FOUR), 1, 14, 4, 8, 10, 15, 12, 12);
        LiftingSignal least = Check.loaded("least 48;" + FOUR);
        step("also below least", least, 1, 14, 4, 8, 10, 15, 12, 12);
    }

    private static void promise28LiftLeft() {
        // d = 6 - 22, s = 6, E = 14, F = 2; floor(-1344 / 200) = -7, floor(-192 / 200) = -1
        step("left, 2", Check.loaded("predict left;" + FOUR), 2, -16, 6, 14, 2, 15, 19, 4);
    }

    private static void promise28LiftNear() {
        // the right one is nearer: d = 6 - 20, s = 0, E = F = 8; floor(-672 / 128) = -6
        step("near, 2", Check.loaded("predict near;" + FOUR), 2, -14, 0, 8, 8, 16, 14, 12);
        // as near on both sides: d = 22 - 10, s = 8, E = 12, F = 6; floor(1152 / 180) = 6, floor(576 / 180) = 3
        step("near, 1", Check.loaded("predict near;" + FOUR), 1, 12, 8, 12, 6, 16, 9, 6);
    }

    private static void promise28LiftNone() {
        step("none, 1", Check.loaded("update none;" + FOUR), 1, 14, 4, 8, 10, 10, 6, 112);
        LiftingSignal signal = Check.loaded(FOUR);
        signal.setUpdate(false);
        signal.setPredict(0);
        step("set to none and left, 1", signal, 1, 12, 8, 12, 6, 10, 6, 252 - 156);
    }

    private static void promise28LiftElsewhere() {
        String moved = "at 2090 10; at 2094 22; at 2098 6; at 2100 20;";
        step("linear, moved", Check.loaded(moved), 2, -14, 2, 10, 6, 15, 16, 6);
        step("left, moved", Check.loaded("predict left;" + moved), 2, -16, 6, 14, 2, 15, 19, 4);
        step("near, moved", Check.loaded("predict near;" + moved), 2, -14, 0, 8, 8, 16, 14, 12);
        step("near, moved, 1", Check.loaded("predict near;" + moved), 1, 12, 8, 12, 6, 16, 9, 6);
    }

    private static void promise28Refused() {
        LiftingSignal signal = Check.loaded(FOUR);
        signal.lift(2);
        String before = Check.fingerprint(signal);
        Check.refused("lift(-1)", NO_INDEX, () -> signal.lift(-1));
        Check.refused("lift(4)", NO_INDEX, () -> signal.lift(4));
        Check.same("no reason yet", signal.reason(0), 0);
        Check.refused("lift(0)", STATE, () -> signal.lift(0));
        Check.refused("lift(3)", STATE, () -> signal.lift(3));
        Check.refused("lift(2)", STATE, () -> signal.lift(2));
        Check.same("a refused lift changes nothing", Check.fingerprint(signal), before);
        Check.refused("lift(1) of two samples", STATE, () -> new LiftingSignal().lift(1));
    }

    private static void promise29Inverse() {
        LiftingSignal signal = Check.loaded(FOUR);
        String before = Check.fingerprint(signal);
        signal.lift(2);
        String between = Check.fingerprint(signal);
        signal.lift(1);
        Check.same("inverse(1)", signal.inverse(1), 1);
        Check.same("one step back", Check.fingerprint(signal), between);
        signal.lift(1);
        Check.refused("inverse(0)", ILLEGAL, () -> signal.inverse(0));
        Check.refused("inverse(47)", ILLEGAL, () -> signal.inverse(47));
        Check.same("inverse(46)", signal.inverse(46), 2);
        Check.same("all steps back", Check.fingerprint(signal), before);
        Check.refused("inverse(47) without steps", ILLEGAL, () -> signal.inverse(47));
        Check.same("no reason yet", signal.reason(0), 0);
        Check.refused("inverse(1) without steps", STATE, () -> signal.inverse(1));
        Check.same("the reason", signal.reason(0), 2);
    }

    private static void promise29KeepsTheRules() {
        LiftingSignal signal = Check.loaded("predict near;" + FOUR);
        String before = Check.fingerprint(signal);
        signal.lift(2);
        signal.setPredict(0);
        signal.setUpdate(false);
        signal.lift(1);
        signal.setPredict(1);
        signal.setUpdate(true);
        signal.inverse(2);
        Check.same("steps keep their rules", Check.fingerprint(signal), before);
        // the changed detail counts: 15 and 12 were 10 + 5 and 6 + 6 for 14; for 0 they stay
        LiftingSignal changed = Check.loaded(FOUR);
        changed.lift(1);
        changed.setDetail(0, 0);
        changed.inverse(1);
        Check.values("with a changed detail", changed, 15, 13, 12, 20);
        Check.same("weight on the left", changed.sample(0, 4), 4);
        Check.same("weight of the sample", changed.sample(1, 4), 8);
        Check.same("drift", changed.drift(), 16);
        Check.same("integral", changed.integral(), 292);
        // values set in between stay: 100 - 5 and 12 - 6, floor(-89 * 4 / 8) = -45, 95 - 45 + 14
        LiftingSignal set = Check.loaded(FOUR);
        set.lift(1);
        set.set(0, 100);
        set.inverse(1);
        Check.values("with a value set", set, 95, 64, 6, 20);
    }
}
