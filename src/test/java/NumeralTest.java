import java.math.BigInteger;

/** Promises 16 and 17 and the terms of numerals, a test for each sentence. */
public final class NumeralTest {
    private static final Check CHECK = new Check("NumeralTest");
    private static final String ARGUMENT = "throws.IllegalArgumentException";
    private static final String STATE = "throws.IllegalStateException";
    private static final String INDEX = "throws.IndexOutOfBoundsException";
    private static final String EIGHTY = "abcdefghij".repeat(8);
    private static final String MOST_DECIMAL =
            "115792089237316195423570985008687907853269984665640564039457584007913129639935";
    private static final String MOST_HEX = "0x" + "f".repeat(64);
    private static final boolean[] BOTH = {false, true};

    public static void main(String[] args) {
        numeralSentences();
        printSentences();
        parseSentences();
        noNumeralSentences();
        tooLargeSentences();
        fullStackSentences();
        CHECK.finish();
    }

    /** Printed from below another word, over an old text. */
    private static void printed(Number word, boolean hex, String want) {
        CHECK.leaves("print(1, " + hex + ") of " + word, Words.type(Words.stackOf(1, word), "old text"),
                s -> s.print(1, hex), want.length(), Words.listed(1, word), want);
    }

    private static void parsed(String text, boolean hex, Number want) {
        CHECK.leaves("parse(" + hex + ") of " + text, Words.type(Words.stackOf(1), text), s -> s.parse(hex), 2,
                Words.listed(want, 1), "");
    }

    private static void noNumeral(String text, boolean hex) {
        CHECK.keeps("parse(" + hex + ") of " + Words.shown(text), Words.type(Words.stackOf(1, 2), text),
                s -> s.parse(hex), ARGUMENT);
    }

    private static void bothWays(Number word, boolean hex, String numeral) {
        printed(word, hex, numeral);
        parsed(numeral, hex, word);
    }

    private static void numeralSentences() {
        CHECK.sentence("Terms: The NUMERAL of a word is its decimal digits without zeros in front", () -> {
            bothWays(1, false, "1");
            bothWays(9, false, "9");
            bothWays(10, false, "10");
            bothWays(99, false, "99");
            bothWays(100, false, "100");
            bothWays(1234567890, false, "1234567890");
            bothWays(Words.MOST, false, MOST_DECIMAL);
            for (int n = 1; n <= 77; n++) {
                bothWays(BigInteger.TEN.pow(n), false, "1" + "0".repeat(n));
                bothWays(BigInteger.TEN.pow(n).subtract(BigInteger.ONE), false, "9".repeat(n));
            }
        });
        CHECK.sentence("Terms: (0 for 0)", () -> bothWays(0, false, "0"));
        CHECK.sentence("Terms: in the form of HEX 0x and its digits 0 .. 9, a .. f", () -> {
            bothWays(9, true, "0x9");
            bothWays(10, true, "0xa");
            bothWays(15, true, "0xf");
            bothWays(0x123456789abcdef0L, true, "0x123456789abcdef0");
            bothWays(Words.MOST, true, MOST_HEX);
        });
        CHECK.sentence("Terms: HEX likewise, without zeros in front", () -> {
            for (int digits = 1; digits <= 64; digits++) {
                bothWays(Words.power(4 * digits - 4), true, "0x1" + "0".repeat(digits - 1));
                bothWays(Words.power(4 * digits - 1), true, "0x8" + "0".repeat(digits - 1));
            }
        });
        CHECK.sentence("Terms: HEX likewise, 0 for 0", () -> bothWays(0, true, "0x0"));
    }

    private static void printSentences() {
        CHECK.sentence("Promise 16: The text becomes the numeral of word k", () -> {
            for (String old : new String[] {"", "1", "12345", EIGHTY, "x\u0000\u00ff"}) {
                CHECK.leaves("print(0, false) over " + old, Words.type(Words.stackOf(12, 34, 56), old),
                        s -> s.print(0, false), 2, "12 34 56", "12");
                CHECK.leaves("print(2, false) over " + old, Words.type(Words.stackOf(12, 34, 56), old),
                        s -> s.print(2, false), 2, "12 34 56", "56");
            }
            CHECK.leaves("print(11, false)", Words.upTo(12), s -> s.print(11, false), 2, Words.listedUpTo(12), "12");
        });
        CHECK.sentence("Promise 16: in the form of hex or not", () -> {
            CHECK.leaves("print(0, false)", Words.stackOf(255), s -> s.print(0, false), 3, "255", "255");
            CHECK.leaves("print(0, true)", Words.stackOf(255), s -> s.print(0, true), 4, "255", "0xff");
        });
        CHECK.sentence("Promise 16: Answers how many characters it has", () -> {
            CHECK.due("print(0, false) of 0", Check.answer(Words.stackOf(0), s -> s.print(0, false)), 1);
            CHECK.due("print(0, true) of 0", Check.answer(Words.stackOf(0), s -> s.print(0, true)), 3);
            CHECK.due("print(0, false) of -1", Check.answer(Words.stackOf(-1), s -> s.print(0, false)), 78);
            CHECK.due("print(0, true) of -1", Check.answer(Words.stackOf(-1), s -> s.print(0, true)), 66);
        });
        CHECK.sentence("Promise 16: IndexOutOfBoundsException when there is no word k", () -> {
            for (int n = 0; n <= 12; n++) {
                for (int k : new int[] {-1, n, n + 1, -n - 1, Integer.MAX_VALUE, Integer.MIN_VALUE}) {
                    for (boolean hex : BOTH) {
                        CHECK.keeps("print(" + k + ", " + hex + ") of " + n, Words.type(Words.upTo(n), "kept"),
                                s -> s.print(k, hex), INDEX);
                    }
                }
            }
        });
    }

    private static void parseSentences() {
        CHECK.sentence("Promise 17: that word is put on top and the text made empty", () -> {
            parsed("7", false, 7);
            parsed("0x7", true, 7);
            CHECK.leaves("parse(false) on none", Words.type(new WideWordStack(), "34"), s -> s.parse(false), 1, "34", "");
            WideWordStack twice = Words.type(Words.stackOf(1), "34");
            twice.parse(false);
            CHECK.keeps("parse(false) once more", twice, s -> s.parse(false), ARGUMENT);
        });
        CHECK.sentence("Promise 17: in the form of hex or not", () -> {
            parsed("10", false, 10);
            parsed("0x10", true, 16);
            noNumeral("0x10", false);
            noNumeral("10", true);
        });
        CHECK.sentence("Promise 17: Answers how many words there are then", () -> {
            for (int n = 0; n <= 11; n++) {
                CHECK.due("parse(false) on " + n, Check.answer(Words.type(Words.upTo(n), "13"),
                        s -> s.parse(false)), n + 1);
                CHECK.due("parse(true) on " + n, Check.answer(Words.type(Words.upTo(n), "0xd"),
                        s -> s.parse(true)), n + 1);
            }
        });
    }

    private static void noNumeralSentences() {
        CHECK.sentence("Promise 17: IllegalArgumentException for the empty text", () -> {
            noNumeral("", false);
            noNumeral("", true);
        });
        CHECK.sentence("Promise 17: IllegalArgumentException for zeros in front", () -> {
            for (String text : new String[] {"00", "01", "007", "0" + MOST_DECIMAL, "0".repeat(80)}) {
                noNumeral(text, false);
            }
            for (String text : new String[] {"0x00", "0x01", "0x007", "0x0" + "f".repeat(64), "0x" + "0".repeat(78)}) {
                noNumeral(text, true);
            }
        });
        CHECK.sentence("Promise 17: IllegalArgumentException for what is no decimal digit", () -> {
            for (int code = 0; code <= 255; code++) {
                char c = (char) code;
                if (c < '0' || c > '9') {
                    noNumeral("" + c, false);
                    noNumeral("1" + c, false);
                    noNumeral(c + "1", false);
                    noNumeral("1" + c + "1", false);
                }
            }
        });
        CHECK.sentence("Promise 17: IllegalArgumentException for what is no hexadecimal digit", () -> {
            for (int code = 0; code <= 255; code++) {
                char c = (char) code;
                if ((c < '0' || c > '9') && (c < 'a' || c > 'f')) {
                    noNumeral("0x" + c, true);
                    noNumeral("0x1" + c, true);
                    noNumeral("0x" + c + "1", true);
                    noNumeral("0x1" + c + "1", true);
                }
            }
        });
        CHECK.sentence("Promise 17: IllegalArgumentException for hexadecimal digits without 0x in front", () -> {
            for (String text : new String[] {"0x", "0", "x", "x1", "1x1", "0X1", "00x1", "0xx1", "0x0x1", "ff", "12"}) {
                noNumeral(text, true);
            }
            for (int code = 0; code <= 255; code++) {
                char c = (char) code;
                if (c != '0') {
                    noNumeral(c + "x1", true);
                }
                if (c != 'x') {
                    noNumeral("0" + c + "1", true);
                }
            }
        });
    }

    private static void tooLargeSentences() {
        CHECK.sentence("Promise 17: IllegalArgumentException for the numeral of a number above 2^256 - 1", () -> {
            parsed(MOST_DECIMAL, false, Words.MOST);
            noNumeral(Words.END.toString(), false);
            noNumeral(Words.END.add(BigInteger.TEN).toString(), false);
            noNumeral(Words.END.shiftLeft(1).toString(), false);
            noNumeral("2" + "0".repeat(77), false);
            noNumeral("9".repeat(78), false);
            noNumeral("1" + "0".repeat(78), false);
            noNumeral("1" + "0".repeat(79), false);
            noNumeral("9".repeat(80), false);
        });
        CHECK.sentence("Promise 17: IllegalArgumentException for the hex numeral of a number above 2^256 - 1", () -> {
            parsed(MOST_HEX, true, Words.MOST);
            noNumeral("0x1" + "0".repeat(64), true);
            noNumeral("0x1" + "0".repeat(63) + "1", true);
            noNumeral("0x" + "f".repeat(65), true);
            noNumeral("0x1" + "0".repeat(77), true);
            noNumeral("0x" + "f".repeat(78), true);
        });
    }

    private static void fullStackSentences() {
        CHECK.sentence("Promise 17: IllegalStateException when there are 12 words", () -> {
            for (String text : new String[] {"0", "13", MOST_DECIMAL}) {
                CHECK.keeps("parse(false) of " + text + " on 12", Words.type(Words.upTo(12), text),
                        s -> s.parse(false), STATE);
            }
            for (String text : new String[] {"0x0", "0xd", MOST_HEX}) {
                CHECK.keeps("parse(true) of " + text + " on 12", Words.type(Words.upTo(12), text),
                        s -> s.parse(true), STATE);
            }
        });
        CHECK.sentence("Promise 17: no such numeral and 12 words, the first exception", () -> {
            for (String text : new String[] {"", "01", "x", "0xd", Words.END.toString()}) {
                CHECK.keeps("parse(false) of " + text + " on 12", Words.type(Words.upTo(12), text),
                        s -> s.parse(false), ARGUMENT);
            }
            for (String text : new String[] {"", "0x", "0x0d", "13", "0x1" + "0".repeat(64)}) {
                CHECK.keeps("parse(true) of " + text + " on 12", Words.type(Words.upTo(12), text),
                        s -> s.parse(true), ARGUMENT);
            }
        });
    }
}
