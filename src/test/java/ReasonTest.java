import java.util.NoSuchElementException;

/** Promises 39 to 42: reasons and saved states. */
public final class ReasonTest {
    private static final Class<IllegalArgumentException> ILLEGAL = IllegalArgumentException.class;
    private static final Class<IndexOutOfBoundsException> NO_INDEX = IndexOutOfBoundsException.class;
    private static final Class<NoSuchElementException> NO_ELEMENT = NoSuchElementException.class;
    private static final Class<IllegalStateException> STATE = IllegalStateException.class;
    private static final String FOUR = ReportTest.FOUR;

    public static void main(String[] args) {
        promises39And40Reasons();
        promises41And42SaveAndRestore();
        promises41And42AreCopies();
        promises41And42Refused();
        Check.end();
    }

    private static void reasons(String when, LiftingSignal signal, int code, int cause, int sample) {
        Check.same(when + ": reason(0)", signal.reason(0), code);
        Check.same(when + ": reason(1)", signal.reason(1), cause);
        Check.same(when + ": reasonSample", signal.reasonSample(), sample);
    }

    private static void promises39And40Reasons() {
        LiftingSignal signal = Check.loaded(FOUR);
        reasons("new", signal, 0, 0, LiftingSignal.NONE);
        Check.refused("inverse", STATE, () -> signal.inverse(1));
        reasons("no step", signal, 2, 0, LiftingSignal.NONE);
        signal.lift(2);
        Check.refused("lift of a lifted one", STATE, () -> signal.lift(2));
        reasons("lifted already", signal, 3, 4, 2);
        Check.refused("lift of the last one", STATE, () -> signal.lift(3));
        reasons("an end", signal, 3, 5, 3);
        Check.refused("set of a lifted one", STATE, () -> signal.set(2, 0));
        reasons("not present", signal, 6, 4, 2);
        Check.refused("noise", STATE, () -> signal.noise(0, 0));
        reasons("some are lifted", signal, 7, 0, LiftingSignal.NONE);
        Check.refused("lift of the first one", STATE, () -> signal.lift(0));
        reasons("the other end", signal, 3, 5, 0);
        signal.forward(46);
        reasons("a call that throws nothing", signal, 3, 5, 0);
        Check.refused("lift(9)", NO_INDEX, () -> signal.lift(9));
        Check.refused("forward(0)", ILLEGAL, () -> signal.forward(0));
        reasons("another exception", signal, 3, 5, 0);
        Check.refused("forward", STATE, () -> signal.forward(1));
        reasons("too few", signal, 1, 0, LiftingSignal.NONE);
        signal.save(0);
        Check.refused("set of a lifted one", STATE, () -> signal.set(1, 0));
        signal.restore(0);
        signal.reset();
        reasons("restored and reset", signal, 6, 4, 1);
        Check.refused("reason(2)", ILLEGAL, () -> signal.reason(2));
        Check.refused("reason(-1)", ILLEGAL, () -> signal.reason(-1));
    }

    private static void promises41And42SaveAndRestore() {
        LiftingSignal signal = Check.loaded(FOUR);
        signal.setSplit(1);
        signal.set(0, 7);
        signal.lift(1);
        signal.setDetail(0, 1234);
        String first = Check.fingerprint(signal);
        signal.save(0);
        signal.setSplit(2);
        signal.setPredict(0);
        signal.setUpdate(false);
        signal.inverse(1);
        signal.lift(2);
        String second = Check.fingerprint(signal);
        signal.save(1);
        signal.restore(0);
        Check.same("the first slot", Check.fingerprint(signal), first);
        signal.restore(1);
        Check.same("the second slot", Check.fingerprint(signal), second);
        signal.reset();
        signal.restore(0);
        Check.same("it stays saved", Check.fingerprint(signal), first);
        signal.reset();
        String third = Check.fingerprint(signal);
        signal.save(0);
        signal.restore(1);
        signal.restore(0);
        Check.same("in place of what was saved", Check.fingerprint(signal), third);
    }

    private static void promises41And42AreCopies() {
        LiftingSignal signal = Check.loaded(FOUR);
        signal.lift(1);
        String before = Check.fingerprint(signal);
        signal.save(0);
        signal.setDetail(0, 5);
        signal.set(0, 5);
        signal.lift(2);
        signal.restore(0);
        Check.same("changes do not reach what is saved", Check.fingerprint(signal), before);
        signal.setDetail(0, 6);
        signal.set(2, 6);
        signal.setSplit(2);
        signal.restore(0);
        Check.same("changes of what was restored do not either", Check.fingerprint(signal), before);
        signal.inverse(1);
        Check.values("a restored step can be inverted", signal, 10, 22, 6, 20);
    }

    private static void promises41And42Refused() {
        LiftingSignal signal = new LiftingSignal();
        Check.refused("save(2)", NO_INDEX, () -> signal.save(2));
        Check.refused("save(-1)", NO_INDEX, () -> signal.save(-1));
        Check.refused("restore(2)", NO_INDEX, () -> signal.restore(2));
        Check.refused("restore(-1)", NO_INDEX, () -> signal.restore(-1));
        Check.refused("restore(0) of nothing", NO_ELEMENT, () -> signal.restore(0));
        signal.save(0);
        Check.refused("restore(1) of nothing", NO_ELEMENT, () -> signal.restore(1));
        signal.restore(0);
        Check.type(signal, "at 0 0; at 0 0;");
        Check.refused("load", ILLEGAL, signal::load);
        signal.restore(0);
        Check.type(signal, "at 0 0; at 1 0;");
        signal.load();
        Check.refused("restore(0) after a load", NO_ELEMENT, () -> signal.restore(0));
    }
}
