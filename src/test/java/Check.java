import java.nio.charset.StandardCharsets;

/** What the tests share: comparing, expecting exceptions, and loading a text. */
final class Check {
    interface Call {
        void run();
    }

    private static int wrong = 0;

    private Check() {
    }

    static void same(String call, long got, long due) {
        if (got != due) {
            fail(call + " answered " + got + ", due is " + due);
        }
    }

    static void same(String call, boolean got, boolean due) {
        same(call, got ? 1 : 0, due ? 1 : 0);
    }

    static void sameDouble(String call, double got, double due) {
        if (got != due) {
            fail(call + " answered " + got + ", due is " + due);
        }
    }

    /** The call must throw just this class, not one below it: the machine's own exceptions stand below. */
    static void refused(String call, Class<? extends RuntimeException> due, Call tried) {
        try {
            tried.run();
        } catch (RuntimeException thrown) {
            if (thrown.getClass() != due) {
                fail(call + " threw " + thrown + ", due is " + due.getSimpleName());
            }
            return;
        }
        fail(call + " threw nothing, due is " + due.getSimpleName());
    }

    static void fail(String message) {
        wrong++;
        System.out.println(message);
    }

    static void end() {
        if (wrong > 0) {
            System.out.println(wrong + " checks failed");
            System.exit(1);
        }
    }

    /** Puts a text into the empty buffer: in blocks of 20 bytes, the last one filled with blanks and truncated. */
    static void type(LiftingSignal signal, String text) {
        byte[] bytes = text.getBytes(StandardCharsets.ISO_8859_1);
        signal.truncate(0);
        for (int from = 0; from < bytes.length; from += 20) {
            signal.append(four(bytes, from), four(bytes, from + 4), four(bytes, from + 8), four(bytes, from + 12),
                    four(bytes, from + 16));
        }
        same("the length of the text typed", signal.truncate(bytes.length), bytes.length);
    }

    static LiftingSignal loaded(String text) {
        LiftingSignal signal = new LiftingSignal();
        type(signal, text);
        signal.load();
        return signal;
    }

    /** All that the reports tell of the samples, the steps and the settings. */
    static String fingerprint(LiftingSignal signal) {
        StringBuilder all = new StringBuilder();
        for (int what = 0; what <= 8; what++) {
            all.append(signal.count(what)).append(' ');
        }
        for (int sample = 0; sample < signal.count(0); sample++) {
            for (int what = 0; what <= 5; what++) {
                all.append(signal.sample(sample, what)).append(' ');
            }
        }
        for (int step = 0; step < signal.count(2); step++) {
            for (int what = 0; what <= 5; what++) {
                all.append(signal.step(step, what)).append(' ');
            }
        }
        return all.append(signal.drift()).toString();
    }

    static void same(String what, String got, String due) {
        if (!got.equals(due)) {
            fail(what + " answered " + got + ", due is " + due);
        }
    }

    /** Some values of a row of samples, all present. */
    static void values(String what, LiftingSignal signal, long... due) {
        for (int sample = 0; sample < due.length; sample++) {
            same(what + ", value of sample " + sample, signal.sample(sample, 3), due[sample]);
        }
    }

    static int four(byte[] bytes, int from) {
        int all = 0;
        for (int i = from; i < from + 4; i++) {
            all = all << 8 | (i < bytes.length ? bytes[i] & 255 : 32);
        }
        return all;
    }
}
