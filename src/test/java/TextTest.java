/** Promises 1 to 6: a new object, the text buffer and the loading of a text. */
public final class TextTest {
    private static final Class<IllegalArgumentException> ILLEGAL = IllegalArgumentException.class;
    private static final Class<IndexOutOfBoundsException> NO_INDEX = IndexOutOfBoundsException.class;
    private static final String TWO = "at 0 0; at 1 0;";

    public static void main(String[] args) {
        promise1NewObject();
        promise2Append();
        promise3Truncate();
        promise4Load();
        promise4Settings();
        promise4Limits();
        promises5And6Errors();
        promises5And6NumberErrors();
        promises5And6RepeatedSettings();
        promises5And6SampleErrors();
        promises5And6BeforeAndAfter();
        Check.end();
    }

    private static void promise1NewObject() {
        LiftingSignal signal = new LiftingSignal();
        int[] counts = {2, 2, 0, 0, 0, 2, 1, 2, 2};
        for (int what = 0; what < counts.length; what++) {
            Check.same("new: count(" + what + ")", signal.count(what), counts[what]);
        }
        Check.same("new", Check.fingerprint(signal), Check.fingerprint(Check.loaded(TWO)));
        Check.same("new: position of 1", signal.sample(1, 0), 1);
        Check.same("new: weight of 0", signal.sample(0, 4), 1);
        Check.same("new: weight of 1", signal.sample(1, 4), 1);
        Check.same("new: errorCode", signal.errorCode(), 0);
        Check.same("new: errorPosition", signal.errorPosition(), LiftingSignal.NONE);
        Check.same("new: reason(0)", signal.reason(0), 0);
        Check.same("new: reason(1)", signal.reason(1), 0);
        Check.same("new: reasonSample", signal.reasonSample(), LiftingSignal.NONE);
        Check.same("new: the buffer is empty", signal.append(0, 0, 0, 0, 0), 20);
        Check.same("NONE", LiftingSignal.NONE, -1);
    }

    private static void promise2Append() {
        LiftingSignal signal = new LiftingSignal();
        // "at 7", " -3;", "at 9", " 12;", "    "
        Check.same("append", signal.append(0x61742037, 0x202d333b, 0x61742039, 0x2031323b, 0x20202020), 20);
        Check.same("load of the appended bytes", signal.load(), 2);
        Check.same("position of 0", signal.sample(0, 0), 7);
        Check.same("position of 1", signal.sample(1, 0), 9);
        Check.values("appended", signal, -3, 12);
        signal.append(0, 0, 0, 0, 0);
        Check.same("append behind", signal.append(0, 0, 0, 0, 0), 40);
        for (int length = 60; length <= 700; length += 20) {
            Check.same("append", signal.append(0, 0, 0, 0, 0), length);
        }
        Check.same("append to the full buffer", signal.append(0, 0, 0, 0, 0), LiftingSignal.NONE);
        Check.same("the full buffer stays", signal.truncate(700), 700);
        signal.truncate(681);
        Check.same("append beyond 700", signal.append(0, 0, 0, 0, 0), LiftingSignal.NONE);
        Check.refused("nothing was appended", NO_INDEX, () -> signal.truncate(682));
        signal.truncate(680);
        Check.same("append up to 700", signal.append(0, 0, 0, 0, 0), 700);
    }

    private static void promise3Truncate() {
        LiftingSignal signal = new LiftingSignal();
        Check.same("truncate the empty buffer", signal.truncate(0), 0);
        Check.refused("truncate(1) of the empty buffer", NO_INDEX, () -> signal.truncate(1));
        Check.refused("truncate(-1)", NO_INDEX, () -> signal.truncate(-1));
        Check.refused("truncate(least int)", NO_INDEX, () -> signal.truncate(Integer.MIN_VALUE));
        Check.refused("truncate(greatest int)", NO_INDEX, () -> signal.truncate(Integer.MAX_VALUE));
        signal.append(1, 2, 3, 4, 5);
        Check.refused("truncate(21)", NO_INDEX, () -> signal.truncate(21));
        Check.same("truncate to the current length", signal.truncate(20), 20);
        Check.same("truncate", signal.truncate(7), 7);
        Check.refused("truncate back", NO_INDEX, () -> signal.truncate(8));
        Check.same("append behind what is left", signal.append(1, 2, 3, 4, 5), 27);
        Check.type(signal, "at 0 0; at 1 567; !!");
        signal.truncate(15);
        Check.refused("what was cut off is not read", ILLEGAL, signal::load);
        Check.same("errorPosition of the cut text", signal.errorPosition(), 15);
    }

    private static void promise4Load() {
        LiftingSignal signal = Check.loaded("at 0 10; at 4 22; at 8 6; at 10 20;");
        Check.same("samples", signal.count(0), 4);
        long[][] due = {{0, 10, 1, 10, 4, -1}, {4, 22, 1, 22, 8, -1}, {8, 6, 1, 6, 6, -1}, {10, 20, 1, 20, 2, -1}};
        for (int sample = 0; sample < 4; sample++) {
            for (int what = 0; what <= 5; what++) {
                Check.same("sample(" + sample + ", " + what + ")", signal.sample(sample, what), due[sample][what]);
            }
        }
        signal.lift(1);
        signal.save(0);
        Check.refused("lift(1)", IllegalStateException.class, () -> signal.lift(1));
        Check.type(signal, "split detail; at 5 1; at 6 -2; at 9 3;");
        Check.same("load", signal.load(), 3);
        Check.same("a load drops the steps", signal.count(2), 0);
        Check.same("a load drops the drift", signal.drift(), 0);
        Check.same("a load begins anew", Check.fingerprint(signal),
                Check.fingerprint(Check.loaded("split detail; at 5 1; at 6 -2; at 9 3;")));
        Check.refused("a load removes saved states", java.util.NoSuchElementException.class, () -> signal.restore(0));
        Check.same("a load keeps the reasons", signal.reason(0), 3);
        Check.same("a load keeps the cause", signal.reason(1), 4);
        Check.same("a load keeps the sample", signal.reasonSample(), 1);
        Check.refused("the buffer is empty after a load", NO_INDEX, () -> signal.truncate(1));
        Check.refused("load of nothing", ILLEGAL, signal::load);
        Check.same("nothing: errorPosition", signal.errorPosition(), 0);
    }

    private static void promise4Settings() {
        settings(TWO, 0, 2, 1, 2);
        settings("split span; predict left; update none; least 2;" + TWO, 0, 0, 0, 2);
        settings("least 48; update keep; predict near; split dyadic;" + TWO, 1, 1, 1, 48);
        settings("predict linear ;\nsplit detail;least0007;" + TWO, 2, 2, 1, 7);
        LiftingSignal signal = Check.loaded("split detail; predict left; update none; least 9;" + TWO);
        Check.type(signal, TWO);
        signal.load();
        Check.same("settings begin anew: split", signal.count(4), 0);
        Check.same("settings begin anew: predict", signal.count(5), 2);
        Check.same("settings begin anew: update", signal.count(6), 1);
        Check.same("settings begin anew: least", signal.count(7), 2);
    }

    private static void settings(String text, int split, int predict, int update, int least) {
        LiftingSignal signal = Check.loaded(text);
        Check.same(text + " errorCode", signal.errorCode(), 0);
        Check.same(text + " split", signal.count(4), split);
        Check.same(text + " predict", signal.count(5), predict);
        Check.same(text + " update", signal.count(6), update);
        Check.same(text + " least", signal.count(7), least);
    }

    private static void promise4Limits() {
        Check.values("blanks may be missing", Check.loaded("at0 5;at1-7;"), 5, -7);
        Check.values("blanks may stand anywhere", Check.loaded("\n at \n0 5 ; at  1 -\n 7\n;\n "), 5, -7);
        Check.values("zeros may lead", Check.loaded("at 0000 0005;at 0001 -0000;"), 5, 0);
        LiftingSignal wide = Check.loaded("at 0 -9999; at 9999 9999;");
        Check.values("the widest", wide, -9999, 9999);
        Check.same("the widest: weight", wide.sample(1, 4), 9999);
        Check.same("48 samples", Check.loaded(samples(48)).count(0), 48);
        Check.same("48 samples: the last one", Check.loaded(samples(48)).sample(47, 0), 47);
    }

    static String samples(int number) {
        StringBuilder text = new StringBuilder();
        for (int sample = 0; sample < number; sample++) {
            text.append("at").append(sample).append(" 0;");
        }
        return text.toString();
    }

    private static void error(String text, int code, int position) {
        LiftingSignal signal = Check.loaded("split detail; at 3 4; at 5 6; at 9 7;");
        signal.forward(1);
        signal.save(1);
        String before = Check.fingerprint(signal);
        Check.type(signal, text);
        Check.refused("load of " + text, ILLEGAL, signal::load);
        Check.same(text + ": errorCode", signal.errorCode(), code);
        Check.same(text + ": errorPosition", signal.errorPosition(), position);
        Check.same(text + ": everything else stays", Check.fingerprint(signal), before);
        Check.refused(text + ": the buffer is empty", NO_INDEX, () -> signal.truncate(1));
        signal.restore(1);
    }

    private static void promises5And6Errors() {
        error("", 1, 0);
        error(" \n ", 1, 3);
        error("at 0 0;", 1, 7);
        error("at 0 0; ", 1, 8);
        error("at 0 0; at 1 0", 1, 14);
        error("at 0 0; at 1 0 ", 1, 15);
        error("at 0 0; at 1 -;", 1, 14);
        error("at 0 0; at 1 --1;", 1, 14);
        error("at 0 0; at 1 0;;", 1, 15);
        error("at 0 0; at 1;", 1, 12);
        error("at -1 0; at 1 0;", 1, 3);
        error("at 0 0; att 1 0;", 1, 8);
        error("at 0 0; a 1 0;", 1, 8);
        error("at 0 0; atz 1 0;", 1, 8);
        error("bt 0 0; at 1 0;", 1, 0);
        error("plit span; at 0 0; at 1 0;", 1, 0);
        error("a".repeat(700), 1, 0);
        error("1".repeat(700), 1, 0);
        error(" ".repeat(700), 1, 700);
        error(" ".repeat(699) + "-", 1, 699);
        error("at 0 0; at{ 1 0;", 1, 10);
        error("at 0 0; at` 1 0;", 1, 10);
        error("at 0 0: at 1 0;", 1, 6);
        error("at 0 0; at 1/ 0;", 1, 12);
        error("at 0 0; At 1 0;", 1, 8);
        error("at 0 0; at 1 0; \tat 2 0;", 1, 16);
        error("at 0 0; at 1 0; at 2 0\u00e1;", 1, 22);
        error("at 0 0\u0000; at 1 0;", 1, 6);
        error("at 0 0; at 1 0; split span;", 1, 16);
        error("split span; at 0 0; split span; at 1 0;", 1, 20);
        error("split; at 0 0; at 1 0;", 1, 5);
        error("split left; at 0 0; at 1 0;", 1, 6);
        error("predict span; at 0 0; at 1 0;", 1, 8);
        error("update linear; at 0 0; at 1 0;", 1, 7);
        error("update 1; at 0 0; at 1 0;", 1, 7);
        error("split span at 0 0; at 1 0;", 1, 11);
        error("least keep; at 0 0; at 1 0;", 1, 6);
        error("least -2; at 0 0; at 1 0;", 1, 6);
        error("splitspan; at 0 0; at 1 0;", 1, 0);
        error("at 0 0 0; at 1 0;", 1, 7);
    }

    private static void promises5And6NumberErrors() {
        error("at 10000 0; at 1 0;", 1, 3);
        error("at 0 00000; at 1 0;", 1, 5);
        error("at 0 -99999; at 1 0;", 1, 6);
        error("at 0 0; at 0 0;", 2, 11);
        error("at 5 0; at 4 !", 2, 11);
        error("at 9999 0; at 9999 0;", 2, 14);
        error("at 5 0; at 00001 0;", 1, 11);
        error("least 1; at 0 0; at 1 0;", 2, 6);
        error("least 0; at 0 0; at 1 0;", 2, 6);
        error("least 49; at 0 0; at 1 0;", 2, 6);
        error("least 9999; at 0 0; at 1 0;", 2, 6);
        error("least 00002; at 0 0; at 1 0;", 1, 6);
        error("least 4294967298; at 0 0; at 1 0;", 1, 6);
    }

    private static void promises5And6RepeatedSettings() {
        error("split span; split span; at 0 0; at 1 0;", 3, 12);
        error("predict near;predict near;", 3, 13);
        error("update none;split span;\n update keep;", 3, 25);
        error("least 2; least 1;", 3, 9);
        error("split span; predict left; update none; least 2; least", 3, 48);
        error("split span; split", 3, 12);
        error("split span split span;", 1, 11);
    }

    private static void promises5And6SampleErrors() {
        String full = samples(48);
        error(full + "at", 4, full.length());
        error(full + " at 48 0;", 4, full.length() + 1);
        error(full + "split", 1, full.length());
        error(full + ";", 1, full.length());
        error(full + "atat", 1, full.length());
    }

    private static void promises5And6BeforeAndAfter() {
        LiftingSignal signal = new LiftingSignal();
        Check.type(signal, "at 0 0; at 0 0;");
        Check.refused("load", ILLEGAL, signal::load);
        Check.same("errorCode", signal.errorCode(), 2);
        signal.append(1, 1, 1, 1, 1);
        signal.truncate(0);
        Check.same("errorCode stays until the next load", signal.errorCode(), 2);
        Check.same("errorPosition stays until the next load", signal.errorPosition(), 11);
        Check.type(signal, TWO);
        signal.load();
        Check.same("errorCode of a good load", signal.errorCode(), 0);
        Check.same("errorPosition of a good load", signal.errorPosition(), LiftingSignal.NONE);
    }
}
