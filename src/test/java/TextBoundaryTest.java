import java.util.NoSuchElementException;

/**
 * The boundary cases of the text and of promises 1 to 6, sentence by sentence in the order of the document. A test's
 * name is the sentence, or the part of it that names the case.
 */
public final class TextBoundaryTest {
    private static final Class<IllegalArgumentException> ILLEGAL = IllegalArgumentException.class;
    private static final Class<IndexOutOfBoundsException> NO_INDEX = IndexOutOfBoundsException.class;
    private static final String TWO = "at 0 0; at 1 0;";

    public static void main(String[] args) {
        theBufferHoldsAtMost700Bytes();
        nothingIsAppendedIfItWouldExceed700();
        mostSignificantByteFirst();
        tokensAreAsLongAsPossible();
        numbersHaveOneToFourDigits();
        blanksAreTheBytes10And32();
        blanksMayStandBeforeBetweenAndBehind();
        aByteThatStartsNoToken();
        whatMayStandInASetting();
        positionsFrom0To9999();
        positionsAreGreaterThanTheOneBefore();
        valuesFromMinus9999To9999();
        from2To48Samples();
        codeFourIsTheWordAtOfA49thSample();
        withoutSettings();
        leastFrom2To48();
        theEndHasTheTextLength();
        theFirstErrorFromTheLeft();
        theLowestCodeAtAPosition();
        codeThreeIsTheFirstWordOfASettingThatTheTextHas();
        aNewObject();
        truncateWithinTheBuffer();
        theBufferIsEmptyAfterALoad();
        savedStatesAreRemovedByALoad();
        reasonsStayAfterALoad();
        noErrorOrNoCallYet();
        Check.end();
    }

    private static void good(String text, int samples) {
        LiftingSignal signal = new LiftingSignal();
        Check.type(signal, text);
        try {
            Check.same("load of " + text, signal.load(), samples);
        } catch (IllegalArgumentException thrown) {
            Check.fail("load of " + text + " found an error at " + signal.errorPosition());
        }
        Check.same("errorCode of " + text, signal.errorCode(), 0);
        Check.same("errorPosition of " + text, signal.errorPosition(), LiftingSignal.NONE);
    }

    private static void bad(String text, int code, int position) {
        LiftingSignal signal = new LiftingSignal();
        Check.type(signal, text);
        Check.refused("load of " + text, ILLEGAL, signal::load);
        Check.same("errorCode of " + text, signal.errorCode(), code);
        Check.same("errorPosition of " + text, signal.errorPosition(), position);
    }

    // ---- THE TEXT and promise 2

    private static void theBufferHoldsAtMost700Bytes() {
        good(TWO + " ".repeat(700 - TWO.length()), 2);
        good(" ".repeat(700 - TWO.length()) + TWO, 2);
        LiftingSignal signal = new LiftingSignal();
        for (int length = 20; length <= 700; length += 20) {
            Check.same("append", signal.append(1, 2, 3, 4, 5), length);
        }
        Check.same("append to 700 bytes", signal.append(1, 2, 3, 4, 5), LiftingSignal.NONE);
    }

    private static void nothingIsAppendedIfItWouldExceed700() {
        for (int length = 681; length <= 700; length++) {
            LiftingSignal signal = new LiftingSignal();
            Check.type(signal, TWO + " ".repeat(length - TWO.length()));
            // 0x21 is a sign that starts no token
            Check.same("append to " + length, signal.append(0x21212121, 0x21212121, 0x21212121, 0x21212121, 0x21212121),
                    LiftingSignal.NONE);
            Check.refused("length " + length + " stays", NO_INDEX, signalTruncated(signal, length + 1));
            Check.same("the text of " + length + " bytes stays", signal.load(), 2);
        }
        LiftingSignal just = new LiftingSignal();
        Check.type(just, " ".repeat(680));
        Check.same("append to 680", just.append(0, 0, 0, 0, 0), 700);
    }

    private static Check.Call signalTruncated(LiftingSignal signal, int length) {
        return () -> signal.truncate(length);
    }

    private static void mostSignificantByteFirst() {
        for (int place = 0; place < 20; place++) {
            // blanks, and one byte 255 among them
            int[] four = {0x20202020, 0x20202020, 0x20202020, 0x20202020, 0x20202020};
            four[place / 4] |= 255 << 24 - place % 4 * 8;
            LiftingSignal signal = new LiftingSignal();
            signal.append(four[0], four[1], four[2], four[3], four[4]);
            Check.refused("load", ILLEGAL, signal::load);
            Check.same("the place of byte " + place, signal.errorPosition(), place);
        }
        LiftingSignal second = new LiftingSignal();
        second.append(0x20202020, 0x20202020, 0x20202020, 0x20202020, 0x20202020);
        second.append(0x20808080, 0x20202020, 0x20202020, 0x20202020, 0x20202020);
        Check.refused("load", ILLEGAL, second::load);
        Check.same("behind what stands", second.errorPosition(), 21);
    }

    private static void tokensAreAsLongAsPossible() {
        good("at0 0;at1 0;", 2);
        good("split span;at0 0;at1-0;", 2);
        bad("att 0 0; at 1 0;", 1, 0);
        bad("at 0 0; ata 1 0;", 1, 8);
        bad("at 0 0; a t 1 0;", 1, 8);
        bad("splitspan; at 0 0; at 1 0;", 1, 0);
        bad("split spans; at 0 0; at 1 0;", 1, 6);
        bad("leas t 2; at 0 0; at 1 0;", 1, 0);
        bad("at 0 0; at 1 2 3;", 1, 15);
    }

    private static void numbersHaveOneToFourDigits() {
        good("at 0 1; at 0001 0001;", 2);
        good("least 0002; at 0 1; at 1 1;", 2);
        bad("at 00000 1; at 1 1;", 1, 3);
        bad("at 0 00001; at 1 1;", 1, 5);
        bad("at 0 -00001; at 1 1;", 1, 6);
        bad("least 00002; at 0 1; at 1 1;", 1, 6);
        bad("at 0 1; at 4294967297 1;", 1, 11);
        bad("0".repeat(700), 1, 0);
    }

    private static void blanksAreTheBytes10And32() {
        for (int b = 0; b < 256; b++) {
            String text = "at 0 0; at 1 0;" + (char) b;
            if (b == 10 || b == 32) {
                good(text, 2);
            } else if (b >= 'a' && b <= 'z' || b >= '0' && b <= '9' || b == ';' || b == '-') {
                bad(text, 1, 15);
            } else {
                bad(text + "at 2 0;", 1, 15);
                bad("at" + (char) b + "0 0; at 1 0;", 1, 2);
            }
        }
    }

    private static void blanksMayStandBeforeBetweenAndBehind() {
        good(" \n split \n dyadic\n;\nleast 3 ; at\n0\n-\n5\n; at 1 - 7 ;\n ", 2);
        good("split dyadic;least3;at0-5;at1-7;", 2);
        bad("at 0 0; at 1 0 0;", 1, 15);
        bad("a t 0 0; at 1 0;", 1, 0);
    }

    private static void aByteThatStartsNoToken() {
        String wrong = "\u0000\t\u000b\r\u001f!,./:<@AZ[`{\u007f\u0080\u00a0\u00e1\u00ff";
        for (int i = 0; i < wrong.length(); i++) {
            bad(wrong.charAt(i) + "at 0 0; at 1 0;", 1, 0);
            bad("at 0 0" + wrong.charAt(i) + "; at 1 0;", 1, 6);
            bad("at 0 0; at 1 0; " + wrong.charAt(i), 1, 16);
        }
    }

    private static void whatMayStandInASetting() {
        for (String setting : new String[] {"split span", "split dyadic", "split detail", "predict left",
            "predict near", "predict linear", "update none", "update keep", "least 2"}) {
            good(setting + ";" + TWO, 2);
            bad(setting + " " + TWO, 1, setting.length() + 1);
            bad(setting + ";;" + TWO, 1, setting.length() + 1);
            bad(setting + ";", 1, setting.length() + 1);
            bad(setting, 1, setting.length());
            bad(TWO + setting, 1, TWO.length());
            bad("at 0 0;" + setting + ";at 1 0;", 1, 7);
        }
        bad("split left;", 1, 6);
        bad("predict none;", 1, 8);
        bad("update span;", 1, 7);
        bad("split 0;", 1, 6);
        bad("least -2;", 1, 6);
        bad("least two;", 1, 6);
        bad("keep;", 1, 0);
    }

    private static void positionsFrom0To9999() {
        good("at 0 0; at 9999 0;", 2);
        Check.same("the position 0", Check.loaded("at 0 0; at 9999 0;").sample(0, 0), 0);
        Check.same("the position 9999", Check.loaded("at 0 0; at 9999 0;").sample(1, 0), 9999);
        bad("at -1 0; at 1 0;", 1, 3);
        bad("at -0 0; at 1 0;", 1, 3);
        bad("at 0 0; at 10000 0;", 1, 11);
    }

    private static void positionsAreGreaterThanTheOneBefore() {
        good("at 4 0; at 5 0;", 2);
        bad("at 5 0; at 5 0;", 2, 11);
        bad("at 5 0; at 4 0;", 2, 11);
        bad("at 0 0; at 0 0;", 2, 11);
        bad("at 9999 0; at 0 0;", 2, 14);
        bad("at 1 0; at 2 0; at 3 0; at 0002 0;", 2, 27);
    }

    private static void valuesFromMinus9999To9999() {
        Check.values("the greatest", Check.loaded("at 0 -9999; at 1 9999;"), -9999, 9999);
        Check.values("around 0", Check.loaded("at 0 -1; at 1 1; at 2 -0; at 3 0;"), -1, 1, 0, 0);
        bad("at 0 10000; at 1 0;", 1, 5);
        bad("at 0 -10000; at 1 0;", 1, 6);
        bad("at 0 --1; at 1 0;", 1, 6);
        bad("at 0 -; at 1 0;", 1, 6);
    }

    private static void from2To48Samples() {
        bad("", 1, 0);
        bad("at 0 0;", 1, 7);
        good(TextTest.samples(2), 2);
        good(TextTest.samples(3), 3);
        good(TextTest.samples(47), 47);
        good(TextTest.samples(48), 48);
        bad(TextTest.samples(48) + "at48 0;", 4, TextTest.samples(48).length());
        LiftingSignal signal = Check.loaded(TextTest.samples(48));
        for (int sample = 0; sample < 48; sample++) {
            Check.same("numbered from 0", signal.sample(sample, 0), sample);
        }
    }

    private static void codeFourIsTheWordAtOfA49thSample() {
        String full = TextTest.samples(48);
        bad(full + "at", 4, full.length());
        bad(full + "\n at 0 !", 4, full.length() + 2);
        bad(full + "att", 1, full.length());
        bad(full + "-", 1, full.length());
        bad(full + "7", 1, full.length());
        bad(TextTest.samples(47) + "at46 0;at48 0;", 2, TextTest.samples(47).length() + 2);
    }

    private static void withoutSettings() {
        LiftingSignal signal = Check.loaded("split detail; predict left; update none; least 48;" + TWO);
        Check.type(signal, TWO);
        signal.load();
        Check.same("split is span", signal.count(4), 0);
        Check.same("predict is linear", signal.count(5), 2);
        Check.same("update is keep", signal.count(6), 1);
        Check.same("least is 2", signal.count(7), 2);
    }

    private static void leastFrom2To48() {
        Check.same("least 2", Check.loaded("least 2;" + TWO).count(7), 2);
        Check.same("least 48", Check.loaded("least 48;" + TWO).count(7), 48);
        bad("least 0;" + TWO, 2, 6);
        bad("least 1;" + TWO, 2, 6);
        bad("least 49;" + TWO, 2, 6);
        bad("least 9999;" + TWO, 2, 6);
    }

    // ---- errors

    private static void theEndHasTheTextLength() {
        bad("", 1, 0);
        bad(" ", 1, 1);
        bad("at", 1, 2);
        bad("at ", 1, 3);
        bad("at 0", 1, 4);
        bad("at 0 -", 1, 6);
        bad("at 0 0", 1, 6);
        bad("at 0 0; ", 1, 8);
        bad("at 0 0; at 1 0", 1, 14);
        bad("least", 1, 5);
        bad("update keep", 1, 11);
        bad("\n".repeat(700), 1, 700);
        bad("at 0" + " ".repeat(696), 1, 700);
    }

    private static void theFirstErrorFromTheLeft() {
        bad("at 0 0; at 0 00000;", 2, 11);
        bad("at 0 00000; at 0 0;", 1, 5);
        bad("least 1; least 2; !", 2, 6);
        bad("split span; split left; at 5 0; at 5 0", 3, 12);
        bad("split left; split span;", 1, 6);
    }

    private static void theLowestCodeAtAPosition() {
        // a token that cannot stand there, and a repeated setting
        bad("split span; at 0 0; split span; at 1 0;", 1, 20);
        bad("split span; split split; at 0 0; at 1 0;", 3, 12);
        bad("predict split; split span;" + TWO, 1, 8);
        bad("split split;" + TWO, 1, 6);
        // a run of more than 4 digits that is no greater than the position before, or no number for least
        bad("at 5 0; at 00004 0;", 1, 11);
        bad("least 99999;" + TWO, 1, 6);
    }

    private static void codeThreeIsTheFirstWordOfASettingThatTheTextHas() {
        String[] settings = {"split span;", "predict left;", "update none;", "least 2;"};
        for (String setting : settings) {
            bad(setting + setting + TWO, 3, setting.length());
            for (String other : settings) {
                if (!other.equals(setting)) {
                    good(setting + other + TWO, 2);
                    bad(setting + other + setting + TWO, 3, setting.length() + other.length());
                }
            }
        }
        bad("split span; split", 3, 12);
        bad("least 2; least 49;", 3, 9);
    }

    // ---- promises 1, 3, 4, 5 and 6

    private static void aNewObject() {
        LiftingSignal signal = new LiftingSignal();
        Check.refused("an empty text buffer", NO_INDEX, () -> signal.truncate(1));
        Check.same("for the text at 0 0; at 1 0;", Check.fingerprint(signal), Check.fingerprint(Check.loaded(TWO)));
        Check.same("no error", signal.errorCode(), 0);
        Check.same("no position", signal.errorPosition(), LiftingSignal.NONE);
    }

    private static void truncateWithinTheBuffer() {
        for (int length : new int[] {0, 20, 700}) {
            LiftingSignal signal = new LiftingSignal();
            Check.type(signal, " ".repeat(length));
            for (int wrong : new int[] {-1, Integer.MIN_VALUE, length + 1, Integer.MAX_VALUE}) {
                Check.refused("truncate(" + wrong + ") of " + length, NO_INDEX, () -> signal.truncate(wrong));
            }
            Check.same("truncate to the length", signal.truncate(length), length);
            Check.same("truncate to 0", signal.truncate(0), 0);
        }
        LiftingSignal cut = new LiftingSignal();
        Check.type(cut, "at 0 0; at 1 0; at 2 0;");
        Check.same("truncate", cut.truncate(15), 15);
        Check.same("what is cut off is gone", cut.load(), 2);
        Check.type(cut, "at 0 0; at 1 99");
        cut.truncate(14);
        cut.append(0x3b202020, 0x20202020, 0x20202020, 0x20202020, 0x20202020);
        cut.load();
        Check.values("appended behind what was left", cut, 0, 9);
    }

    private static void theBufferIsEmptyAfterALoad() {
        LiftingSignal signal = Check.loaded(TWO);
        Check.refused("after a good load", NO_INDEX, () -> signal.truncate(1));
        Check.refused("the next text is empty", ILLEGAL, signal::load);
        Check.same("at its end", signal.errorPosition(), 0);
        Check.type(signal, "at 0 0; !");
        Check.refused("a bad load", ILLEGAL, signal::load);
        Check.refused("after a bad load", NO_INDEX, () -> signal.truncate(1));
        Check.same("append begins at 0", signal.append(0, 0, 0, 0, 0), 20);
    }

    private static void savedStatesAreRemovedByALoad() {
        LiftingSignal signal = Check.loaded("at 0 5; at 1 6;");
        signal.save(0);
        signal.save(1);
        Check.type(signal, "at 0 5;");
        Check.refused("a bad load", ILLEGAL, signal::load);
        signal.restore(0);
        signal.restore(1);
        Check.type(signal, "at 0 5; at 1 6;");
        signal.load();
        Check.refused("slot 0", NoSuchElementException.class, () -> signal.restore(0));
        Check.refused("slot 1", NoSuchElementException.class, () -> signal.restore(1));
    }

    private static void reasonsStayAfterALoad() {
        LiftingSignal signal = Check.loaded("at 0 5; at 1 6;");
        Check.refused("lift of an end", IllegalStateException.class, () -> signal.lift(1));
        Check.type(signal, TWO);
        signal.load();
        Check.same("reason(0)", signal.reason(0), 3);
        Check.same("reason(1)", signal.reason(1), 5);
        Check.same("reasonSample", signal.reasonSample(), 1);
        Check.type(signal, "!");
        Check.refused("a bad load", ILLEGAL, signal::load);
        Check.same("reason(0) after a bad load", signal.reason(0), 3);
        Check.same("reasonSample after a bad load", signal.reasonSample(), 1);
    }

    private static void noErrorOrNoCallYet() {
        LiftingSignal signal = new LiftingSignal();
        signal.append(0x21212121, 0, 0, 0, 0);
        Check.same("no call yet", signal.errorCode(), 0);
        Check.same("no call yet, the position", signal.errorPosition(), LiftingSignal.NONE);
        Check.refused("load", ILLEGAL, signal::load);
        Check.same("an error", signal.errorCode(), 1);
        Check.same("an error at 0", signal.errorPosition(), 0);
        Check.type(signal, TWO);
        Check.same("until the next load", signal.errorCode(), 1);
        signal.load();
        Check.same("no error", signal.errorCode(), 0);
        Check.same("no error, the position", signal.errorPosition(), LiftingSignal.NONE);
    }
}
