import java.util.NoSuchElementException;

/**
 * The boundary cases of the document's description from SAMPLES to EXCEPTIONS, sentence by sentence in its order; a
 * test's name is the sentence, or the part of it that names the case. The answers that are due are worked out by hand.
 */
public final class LiftingBoundaryTest {
    private static final Class<IllegalArgumentException> ILLEGAL = IllegalArgumentException.class;
    private static final Class<IndexOutOfBoundsException> NO_INDEX = IndexOutOfBoundsException.class;
    private static final Class<IllegalStateException> STATE = IllegalStateException.class;
    private static final Class<NoSuchElementException> NO_ELEMENT = NoSuchElementException.class;
    private static final int NONE = LiftingSignal.NONE;
    private static final String FOUR = ReportTest.FOUR;

    public static void main(String[] args) {
        allSamplesArePresentAtFirst();
        theEndsAreNoInnerSamples();
        theWeightsAtFirst();
        nearTakesTheLeftOneIfItIsAtMostAsFar();
        linearIsRoundedTowardNegativeInfinity();
        theShareIsRoundedDown();
        withUpdateKeepTheValuesChange();
        withUpdateNoneTheyStay();
        theDriftIncreases();
        stepsAreNumberedFrom0();
        theRulesThatWereUsedAreKept();
        anInversionTakesTheDetailAsItIsNow();
        anInversionTakesTheValuesOfThen();
        theStepIsGone();
        spanIsTheLeastDifferenceOfPositions();
        dyadicIsTheFewestHalvings();
        detailIsTheLeastAmountWithoutSign();
        ofSeveralTheLowestNumber();
        noneIfAtMostAsManyArePresentAsLeastSays();
        noStepAndNoInversionChangesTheIntegral();
        theReasonCodes();
        theReasonOfTheLatestException();
        theFirstNamedException();
        aRefusedCallChangesNothing();
        Check.end();
    }

    // ---- SAMPLES

    private static void allSamplesArePresentAtFirst() {
        LiftingSignal signal = Check.loaded(TextTest.samples(48));
        for (int sample = 0; sample < 48; sample++) {
            Check.same("present", signal.sample(sample, 2), 1);
            Check.same("without a step", signal.sample(sample, 5), NONE);
        }
        Check.same("all of them", signal.count(1), 48);
    }

    private static void theEndsAreNoInnerSamples() {
        for (int number : new int[] {2, 3, 48}) {
            LiftingSignal signal = Check.loaded(TextTest.samples(number));
            Check.refused("lift of the first", STATE, () -> signal.lift(0));
            Check.refused("lift of the last", STATE, () -> signal.lift(number - 1));
            Check.refused("lift behind the last", NO_INDEX, () -> signal.lift(number));
        }
        LiftingSignal all = Check.loaded(TextTest.samples(48));
        for (int sample = 46; sample >= 1; sample--) {
            all.lift(sample);
        }
        Check.same("the ends are left", all.count(1), 2);
        Check.same("the first one", all.present(0), 0);
        Check.same("the last one", all.present(1), 47);
    }

    private static void weights(String text, long... due) {
        LiftingSignal signal = Check.loaded(text);
        for (int sample = 0; sample < due.length; sample++) {
            Check.same(text + " weight of " + sample, signal.sample(sample, 4), due[sample]);
        }
    }

    private static void theWeightsAtFirst() {
        weights("at 0 0; at 1 0;", 1, 1);
        weights("at 0 0; at 9999 0;", 9999, 9999);
        weights("at 3 1; at 10 -1;", 7, 7);
        weights("at 0 0; at 1 0; at 9999 0;", 1, 9999, 9998);
        weights("at 2 0; at 5 0; at 6 0; at 11 0;", 3, 4, 6, 5);
    }

    // ---- LIFTING

    private static void lifted(String text, int sample, long detail, long share, long... values) {
        LiftingSignal signal = Check.loaded(text);
        long before = signal.integral();
        Check.same(text + " detail", signal.lift(sample), detail);
        Check.same(text + " step: detail", signal.step(0, 3), detail);
        Check.same(text + " share", signal.step(0, 5), share);
        Check.same(text + " left", signal.sample(sample - 1, 3), values[0]);
        Check.same(text + " right", signal.sample(sample + 1, 3), values[1]);
        Check.same(text + " drift", signal.drift(), values[2]);
        Check.same(text + " integral", signal.integral(), before);
    }

    private static void nearTakesTheLeftOneIfItIsAtMostAsFar() {
        // as far: d = 5 - 1, w = s = 4, E = 6, F = 2: floor(96 / 40), floor(32 / 40); 40 - 36
        lifted("predict near; at 0 1; at 2 5; at 4 9;", 1, 4, 4, 3, 9, 4);
        // one nearer: E = 7, F = 3: floor(140 / 58), floor(60 / 58); 54 - 51
        lifted("predict near; at 0 1; at 2 5; at 5 9;", 1, 4, 5, 3, 10, 3);
        // one farther: d = 5 - 9, s = 0, E = 3, F = 7: floor(-60 / 58), floor(-140 / 58); 46 - 39
        lifted("predict near; at 0 1; at 3 5; at 5 9;", 1, -4, 0, -1, 6, 7);
    }

    private static void linearIsRoundedTowardNegativeInfinity() {
        // floor(1 / 3) = 0, d = 0, E = F = 3; the drift is 2 - 3
        lifted("at 0 0; at 1 0; at 3 1;", 1, 0, 2, 0, 1, -1);
        // floor(-1 / 3) = -1, d = 1, E = F = 3: floor(9 / 18); the drift is -2 + 3
        lifted("at 0 0; at 1 0; at 3 -1;", 1, 1, 2, 0, -1, 1);
        // floor(-3 / 3) = -1, d = 0
        lifted("at 0 0; at 1 -1; at 3 -3;", 1, 0, 2, 0, -3, 0);
        lifted("at 0 -9999; at 1 9999; at 9999 -9999;", 1, 19998, 9998, -9999 + 9999, -9999 + 9999, 0);
    }

    private static void theShareIsRoundedDown() {
        LiftingSignal signal = Check.loaded("predict left; at 0 0; at 1 0; at 2 0; at 4 0;");
        signal.lift(2);
        Check.same("left gives all to the left", signal.sample(1, 4), 2 + 3);
        signal.setPredict(2);
        signal.lift(1);
        // floor(5 * 3 / 4) = 3
        Check.same("the share", signal.step(1, 5), 3);
        Check.same("the weight on the left", signal.sample(0, 4), 1 + 3);
        Check.same("the rest on the right", signal.sample(3, 4), 2 + 2);
    }

    private static void withUpdateKeepTheValuesChange() {
        // d = 2, w = 2, E = 2, F = 2: floor(8 / 8) on both sides
        lifted("at 0 0; at 1 2; at 2 0;", 1, 2, 1, 1, 1, 0);
        // d = -1: floor(-4 / 8) = -1 on both sides, 2 * -1 before and 4 * -1 now
        lifted("at 0 0; at 1 -1; at 2 0;", 1, -1, 1, -1, -1, 2);
        // d = 1: floor(4 / 8) = 0
        lifted("at 0 0; at 1 1; at 2 0;", 1, 1, 1, 0, 0, 2);
    }

    private static void withUpdateNoneTheyStay() {
        lifted("update none; at 0 0; at 1 2; at 2 0;", 1, 2, 1, 0, 0, 4);
        LiftingSignal signal = Check.loaded("update none; at 0 0; at 1 2; at 2 0;");
        signal.lift(1);
        Check.same("but the weights change", signal.sample(0, 4), 2);
        Check.same("on both sides", signal.sample(2, 4), 2);
        signal.setUpdate(true);
        signal.inverse(1);
        Check.values("the inversion leaves them, too", signal, 0, 2, 0);
    }

    private static void theDriftIncreases() {
        LiftingSignal signal = Check.loaded("at 0 0; at 1 1; at 2 0; at 3 1; at 4 0;");
        Check.same("0 at first", signal.drift(), 0);
        signal.lift(1);
        // 2 before; d = 1, w = 2, E = 2, F = 3: floor(4 / 13), floor(6 / 13)
        Check.same("after a step", signal.drift(), 2);
        signal.lift(3);
        // d = 1, w = 2, E = 4, F = 2: floor(8 / 20), floor(4 / 20)
        Check.same("after two steps", signal.drift(), 4);
        signal.inverse(1);
        Check.same("after an inversion", signal.drift(), 2);
        signal.inverse(1);
        Check.same("after all inversions", signal.drift(), 0);
    }

    private static void stepsAreNumberedFrom0() {
        LiftingSignal signal = Check.loaded(FOUR);
        signal.lift(1);
        Check.same("the first step", signal.sample(1, 5), 0);
        signal.lift(2);
        Check.same("the second step", signal.sample(2, 5), 1);
        signal.inverse(1);
        signal.inverse(1);
        signal.lift(2);
        Check.same("a number is used again", signal.sample(2, 5), 0);
        Check.same("its sample", signal.step(0, 0), 2);
    }

    private static void theRulesThatWereUsedAreKept() {
        for (int predict = 0; predict < 3; predict++) {
            for (int update = 0; update < 2; update++) {
                LiftingSignal signal = Check.loaded(FOUR);
                String before = values(signal);
                signal.setPredict(predict);
                signal.setUpdate(update == 1);
                signal.lift(2);
                signal.lift(1);
                signal.setPredict((predict + 1) % 3);
                signal.setUpdate(update == 0);
                signal.inverse(2);
                Check.same("with " + predict + " and " + update, values(signal), before);
            }
        }
    }

    private static String values(LiftingSignal signal) {
        StringBuilder all = new StringBuilder();
        for (int sample = 0; sample < signal.count(0); sample++) {
            all.append(signal.sample(sample, 3)).append(' ').append(signal.sample(sample, 4)).append(' ');
        }
        return all.append(signal.drift()).toString();
    }

    private static void anInversionTakesTheDetailAsItIsNow() {
        LiftingSignal signal = Check.loaded("at 0 0; at 1 2; at 2 0;");
        signal.lift(1);
        signal.setDetail(0, -2);
        signal.inverse(1);
        // the neighbours were 1; floor(-8 / 8) is taken back from them; the prediction is 2 then
        Check.values("with -2", signal, 2, 0, 2);
        Check.same("the drift", signal.drift(), 0);
        signal.lift(1);
        signal.setDetail(0, 0);
        signal.inverse(1);
        Check.values("with 0", signal, 1, 1, 1);
    }

    private static void anInversionTakesTheValuesOfThen() {
        LiftingSignal signal = Check.loaded("at 0 0; at 1 2; at 2 0;");
        signal.lift(1);
        signal.set(0, 9999);
        signal.set(2, -9999);
        signal.inverse(1);
        // 9998 and -10000, floor(-19998 / 2) = -9999, and 2
        Check.values("values beyond 9999", signal, 9998, -1 + 2, -10000);
    }

    private static void theStepIsGone() {
        LiftingSignal signal = Check.loaded(FOUR);
        signal.lift(2);
        signal.lift(1);
        signal.inverse(1);
        Check.same("one is left", signal.count(2), 1);
        Check.refused("step(1, 0)", NO_INDEX, () -> signal.step(1, 0));
        Check.refused("setDetail(1, 0)", NO_INDEX, () -> signal.setDetail(1, 0));
        Check.refused("largest(1)", NO_INDEX, () -> signal.largest(1));
        Check.same("the sample has none", signal.sample(1, 5), NONE);
        Check.same("it is present", signal.sample(1, 2), 1);
    }

    private static void nexts(String text, int... due) {
        LiftingSignal signal = Check.loaded(text);
        for (int sample : due) {
            Check.same(text + " next", signal.next(), sample);
            signal.forward(1);
            Check.same(text + " lifted", signal.step(signal.count(2) - 1, 0), sample);
        }
        Check.refused(text + " next of none", NO_ELEMENT, signal::next);
    }

    private static void spanIsTheLeastDifferenceOfPositions() {
        // the spans are 5, 4 and 5, then 7 and 8
        nexts("at 0 0; at 3 0; at 5 0; at 7 0; at 10 0;", 2, 1, 3);
        // the spans are 6, 5 and 4, then 6 and 8
        nexts("at 0 0; at 4 0; at 6 0; at 9 0; at 10 0;", 3, 1, 2);
    }

    private static void dyadicIsTheFewestHalvings() {
        nexts("split dyadic;" + TextTest.samples(10), 1, 3, 5, 7, 2, 6, 4, 8);
    }

    private static void detailIsTheLeastAmountWithoutSign() {
        // left, none: 5, -4, 3 of 0 5 1 4; then 5 and 1 - 5; then 5
        nexts("split detail; predict left; update none; at 0 0; at 1 5; at 2 1; at 3 4; at 4 0;", 3, 2, 1);
        // near, none: all as near as that: -1, 1, then over the lifted one 0 - -1 = 1
        nexts("split detail; predict near; update none; at 0 0; at 1 -1; at 2 0; at 3 9;", 1, 2);
    }

    private static void ofSeveralTheLowestNumber() {
        // the spans are 2, 2 and 2, then 3 and 2
        nexts(TextTest.samples(5), 1, 3, 2);
        nexts("split dyadic;" + TextTest.samples(4), 1, 2);
        nexts("split detail;" + TextTest.samples(5), 1, 2, 3);
        nexts("split detail; predict left; update none; at 0 0; at 1 7; at 2 0; at 3 -7; at 4 5;", 1, 2, 3);
    }

    private static void noneIfAtMostAsManyArePresentAsLeastSays() {
        for (int least = 2; least <= 6; least++) {
            LiftingSignal signal = Check.loaded("least " + least + ";" + TextTest.samples(5));
            int due = Math.max(0, 5 - least);
            if (due > 0) {
                Check.same("forward with least " + least, signal.forward(46), due);
            }
            Check.same("present with least " + least, signal.count(1), 5 - due);
            Check.refused("forward at least " + least, STATE, () -> signal.forward(1));
            Check.refused("next at least " + least, NO_ELEMENT, signal::next);
        }
        LiftingSignal fewer = Check.loaded("least 4;" + TextTest.samples(5));
        fewer.lift(1);
        fewer.lift(2);
        Check.same("fewer than least", fewer.count(1), 3);
        Check.refused("forward with fewer", STATE, () -> fewer.forward(1));
        fewer.inverse(2);
        Check.same("more again", fewer.forward(46), 1);
        LiftingSignal most = Check.loaded("least 48;" + TextTest.samples(48));
        Check.refused("forward with 48 of 48", STATE, () -> most.forward(46));
        Check.same("47 of 48", Check.loaded("least 47;" + TextTest.samples(48)).forward(46), 1);
    }

    // ---- THE INTEGRAL

    private static void noStepAndNoInversionChangesTheIntegral() {
        for (int scheme = 0; scheme < 18; scheme++) {
            LiftingSignal signal = Check.loaded("at 0 10; at 4 -22; at 8 6; at 10 20; at 17 -9999; at 19 9999;");
            signal.setSplit(scheme / 6);
            signal.setPredict(scheme / 2 % 3);
            signal.setUpdate(scheme % 2 == 0);
            long due = signal.integral();
            signal.forward(46);
            Check.same("after " + scheme, signal.integral(), due);
            signal.setDetail(0, -99999);
            signal.setDetail(3, 99999);
            Check.same("a changed detail does not count yet", signal.integral(), due);
            signal.inverse(3);
            Check.same("after inversions of " + scheme, signal.integral(), due);
            signal.inverse(46);
            Check.same("after all inversions of " + scheme, signal.integral(), due);
        }
        LiftingSignal set = Check.loaded(FOUR);
        set.lift(2);
        set.set(1, 15 + 3);
        Check.same("a value set does", set.integral(), 292 + 3 * 10);
        Check.same("the drift stays", set.drift(), 6);
        set.inverse(1);
        Check.same("and keeps counting", set.integral(), 292 + 3 * 10);
        LiftingSignal noisy = Check.loaded("at 0 0; at 7 0;");
        // it adds 3 and -1, as StepTest has it
        noisy.noise(1, 5);
        Check.same("noise does, too", noisy.integral(), 7 * 3 - 7);
        Check.same("the drift stays again", noisy.drift(), 0);
    }

    // ---- REASONS and EXCEPTIONS

    private static void reasons(String when, LiftingSignal signal, int code, int cause, int sample) {
        Check.same(when + ": reason(0)", signal.reason(0), code);
        Check.same(when + ": reason(1)", signal.reason(1), cause);
        Check.same(when + ": reasonSample", signal.reasonSample(), sample);
    }

    private static void theReasonCodes() {
        LiftingSignal few = Check.loaded(TextTest.samples(2));
        Check.refused("forward", STATE, () -> few.forward(1));
        reasons("1 too few samples are present", few, 1, 0, NONE);
        LiftingSignal none = Check.loaded(FOUR);
        Check.refused("inverse", STATE, () -> none.inverse(1));
        reasons("2 there is no step", none, 2, 0, NONE);
        none.lift(2);
        Check.refused("lift of a lifted one", STATE, () -> none.lift(2));
        reasons("3, as it is lifted already", none, 3, 4, 2);
        Check.refused("lift of an end", STATE, () -> none.lift(0));
        reasons("3, as it is the first one", none, 3, 5, 0);
        Check.refused("lift of an end", STATE, () -> none.lift(3));
        reasons("3, as it is the last one", none, 3, 5, 3);
        Check.refused("set", STATE, () -> none.set(2, 1));
        reasons("6 the sample is not present", none, 6, 4, 2);
        Check.refused("noise", STATE, () -> none.noise(1, 1));
        reasons("7 some samples are lifted", none, 7, 0, NONE);
    }

    private static void theReasonOfTheLatestException() {
        LiftingSignal signal = new LiftingSignal();
        reasons("no such exception", signal, 0, 0, NONE);
        Check.refused("lift", STATE, () -> signal.lift(1));
        reasons("with a cause", signal, 3, 5, 1);
        Check.refused("inverse", STATE, () -> signal.inverse(46));
        reasons("then without a cause and a sample", signal, 2, 0, NONE);
        Check.refused("inverse(0)", ILLEGAL, () -> signal.inverse(0));
        Check.refused("lift(2)", NO_INDEX, () -> signal.lift(2));
        Check.refused("next", NO_ELEMENT, signal::next);
        Check.refused("reason(2)", ILLEGAL, () -> signal.reason(2));
        reasons("other exceptions do not count", signal, 2, 0, NONE);
    }

    private static void theFirstNamedException() {
        LiftingSignal signal = Check.loaded(FOUR);
        Check.refused("inverse: argument, then state", ILLEGAL, () -> signal.inverse(47));
        signal.forward(46);
        signal.setDetail(0, 99999);
        signal.set(0, 9999);
        Check.refused("sample: index, then argument", NO_INDEX, () -> signal.sample(4, 6));
        Check.refused("step: index, then argument", NO_INDEX, () -> signal.step(2, 6));
        Check.refused("set: index, then argument", NO_INDEX, () -> signal.set(4, 10000));
        Check.refused("set: argument, then state", ILLEGAL, () -> signal.set(1, 10000));
        Check.refused("noise: argument, then state", ILLEGAL, () -> signal.noise(1, 1000));
        Check.refused("forward: argument, then state", ILLEGAL, () -> signal.forward(0));
        Check.refused("lift: index, then state", NO_INDEX, () -> signal.lift(-1));
        Check.refused("setDetail: index, then argument", NO_INDEX, () -> signal.setDetail(2, 100000));
        Check.refused("bestThreshold: argument, then none", ILLEGAL, () -> signal.bestThreshold(-1));
        Check.refused("bestThreshold of none", NO_ELEMENT, () -> signal.bestThreshold(0));
        Check.refused("restore: index, then nothing saved", NO_INDEX, () -> signal.restore(2));
        reasons("none of them is of the state", signal, 0, 0, NONE);
    }

    private static void aRefusedCallChangesNothing() {
        LiftingSignal signal = Check.loaded("least 3; split detail; predict near; update none;" + FOUR);
        signal.lift(2);
        signal.save(0);
        signal.lift(1);
        signal.setDetail(1, -77);
        Check.type(signal, "at 0 0; at 1 1; at 2");
        String before = Check.fingerprint(signal);
        Check.Call[] refused = {() -> signal.count(9), () -> signal.sample(4, 0), () -> signal.sample(0, 6),
            () -> signal.present(2), () -> signal.neighbour(-1, true), () -> signal.step(2, 0), () -> signal.step(0, 6),
            () -> signal.valueAt(11), () -> signal.mean(2), () -> signal.largest(2), signal::next,
            () -> signal.setSplit(3), () -> signal.setPredict(3), () -> signal.set(4, 0), () -> signal.set(0, 10000),
            () -> signal.set(1, 0), () -> signal.noise(1, 1000), () -> signal.noise(1, 5), () -> signal.forward(47),
            () -> signal.forward(1), () -> signal.lift(4), () -> signal.lift(1), () -> signal.lift(0),
            () -> signal.inverse(47), () -> signal.setDetail(2, 0), () -> signal.setDetail(0, 100000),
            () -> signal.threshold(10000, true), () -> signal.quantize(10000), () -> signal.quantize(0),
            () -> signal.keepLargest(47), () -> signal.error(3), () -> signal.errorWith(10000, true),
            () -> signal.bestThreshold(100000), () -> signal.bestThreshold(0), () -> signal.bitsBy(3, 0),
            () -> signal.bitsBy(0, 3), () -> signal.reason(2), () -> signal.save(2), () -> signal.restore(2),
            () -> signal.restore(1), () -> signal.truncate(21), () -> signal.truncate(-1)};
        for (int i = 0; i < refused.length; i++) {
            thrown("refused call " + i, refused[i]);
            Check.same("refused call " + i, Check.fingerprint(signal), before);
        }
        Check.same("the text stays", signal.truncate(16), 16);
        signal.restore(0);
        Check.same("what is saved stays", signal.count(2), 1);
        Check.same("a text with no error", signal.load(), 2);
    }

    private static void thrown(String call, Check.Call tried) {
        try {
            tried.run();
        } catch (RuntimeException due) {
            return;
        }
        Check.fail(call + " threw nothing");
    }
}
