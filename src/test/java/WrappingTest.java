import java.math.BigInteger;
import java.util.ArrayList;
import java.util.Arrays;
import java.util.List;

/** Promise 9 and the terms of the operations that wrap around, a test for each sentence. */
public final class WrappingTest {
    private static final Check CHECK = new Check("WrappingTest");
    private static final String ARGUMENT = "throws.IllegalArgumentException";
    private static final String STATE = "throws.IllegalStateException";
    // A text that no operation may touch.
    private static final String KEPT = "kept";
    private static final BigInteger MOST = Words.MOST;
    private static final BigInteger LEAST = Words.SIGNED_LEAST;
    private static final BigInteger GREATEST = Words.SIGNED_MOST;
    // The bytes 0 .. 31 of this word are 1 .. 32.
    private static final BigInteger COUNTED =
            new BigInteger("0102030405060708090a0b0c0d0e0f101112131415161718191a1b1c1d1e1f20", 16);

    public static void main(String[] args) {
        sumsAndProducts();
        quotientsAndRemainders();
        ofThreeWords();
        CHECK.sentence("Terms: 9 EXP x to the power y", WrappingTest::powers);
        CHECK.sentence("Terms: EXP (1 when y is 0)", WrappingTest::zerothPowers);
        signExtensions();
        comparisons();
        bits();
        CHECK.sentence("Terms: BYTES 0 .. 31 the highest first, 21 BYTE byte x of y", WrappingTest::bytes);
        CHECK.sentence("Terms: BYTE 0 when x is above 31", WrappingTest::bytesAboveTheLast);
        shifts();
        wrapAround();
        taking();
        answersAndRefusals();
        CHECK.finish();
    }

    /** The operation takes these words, x first, and puts its result on the one word below them. */
    private static void row(int operation, Number want, Number... taken) {
        Number[] words = Arrays.copyOf(taken, taken.length + 1);
        words[taken.length] = 77;
        WideWordStack stack = Words.type(Words.stackOf(words), KEPT);
        CHECK.leaves("wrapping(" + operation + ") of " + Words.listed(taken), stack, s -> s.wrapping(operation), 2,
                Words.listed(want, 77), KEPT);
    }

    private static BigInteger below(BigInteger word) {
        return word.subtract(BigInteger.ONE);
    }

    private static BigInteger above(BigInteger word) {
        return word.add(BigInteger.ONE);
    }

    private static void sumsAndProducts() {
        CHECK.sentence("Terms: 0 ADD x + y", () -> {
            row(0, 5, 2, 3);
            row(0, 0, 0, 0);
            row(0, MOST, below(MOST), 1);
            row(0, Words.power(192), below(Words.power(192)), 1);
        });
        CHECK.sentence("Terms: 1 MUL x * y", () -> {
            row(1, 6, 2, 3);
            row(1, 0, 0, MOST);
            row(1, MOST, MOST, 1);
            row(1, LEAST, Words.power(127), Words.power(128));
            row(1, MOST, below(Words.power(128)), above(Words.power(128)));
        });
        CHECK.sentence("Terms: 2 SUB x - y", () -> {
            row(2, 1, 3, 2);
            row(2, 0, 3, 3);
            row(2, 0, MOST, MOST);
            row(2, below(Words.power(192)), Words.power(192), 1);
        });
    }

    private static void quotientsAndRemainders() {
        CHECK.sentence("Terms: 3 DIV x / y without remainder, of the words", WrappingTest::quotients);
        CHECK.sentence("Terms: 5 MOD x % y its remainder, of the words", WrappingTest::remainders);
        CHECK.sentence("Terms: 4 SDIV of the signed values, the quotient cut off towards 0",
                WrappingTest::signedQuotients);
        CHECK.sentence("Terms: 6 SMOD of the signed values, the remainder with the sign of x",
                WrappingTest::signedRemainders);
        CHECK.sentence("Terms: DIV 0 when y is 0", () -> divisionByZero(3));
        CHECK.sentence("Terms: SDIV 0 when y is 0", () -> divisionByZero(4));
        CHECK.sentence("Terms: MOD 0 when y is 0", () -> divisionByZero(5));
        CHECK.sentence("Terms: SMOD 0 when y is 0", () -> divisionByZero(6));
    }

    private static void quotients() {
        row(3, 3, 7, 2);
        row(3, 0, 1, 2);
        row(3, 1, 7, 7);
        row(3, 0, 6, 7);
        row(3, 0, 0, 7);
        row(3, MOST, MOST, 1);
        row(3, GREATEST, MOST, 2);
        row(3, 1, MOST, LEAST);
        row(3, 0, LEAST, MOST);
        row(3, above(Words.power(128)), MOST, below(Words.power(128)));
    }

    private static void remainders() {
        row(5, 1, 7, 2);
        row(5, 1, 1, 2);
        row(5, 0, 7, 7);
        row(5, 6, 6, 7);
        row(5, 0, 0, 7);
        row(5, 0, MOST, 1);
        row(5, 1, MOST, 2);
        row(5, GREATEST, MOST, LEAST);
        row(5, LEAST, LEAST, MOST);
        row(5, below(MOST), below(MOST), MOST);
    }

    private static void signedQuotients() {
        row(4, 3, 7, 2);
        row(4, -3, -7, 2);
        row(4, -3, 7, -2);
        row(4, 3, -7, -2);
        row(4, 0, -1, 2);
        row(4, 0, 1, -2);
        row(4, 1, -7, -7);
        row(4, LEAST, LEAST, 1);
        row(4, 1, LEAST, LEAST);
        row(4, 0, GREATEST, LEAST);
        row(4, -1, LEAST, GREATEST);
        row(4, Words.power(254).negate(), LEAST, 2);
    }

    private static void signedRemainders() {
        row(6, 1, 7, 2);
        row(6, -1, -7, 2);
        row(6, 1, 7, -2);
        row(6, -1, -7, -2);
        row(6, 0, -8, 2);
        row(6, -1, -1, 2);
        row(6, 1, 1, -2);
        row(6, 0, LEAST, -1);
        row(6, 0, LEAST, LEAST);
        row(6, GREATEST, GREATEST, LEAST);
        row(6, -1, LEAST, GREATEST);
    }

    private static void divisionByZero(int operation) {
        row(operation, 0, 7, 0);
        row(operation, 0, 0, 0);
        row(operation, 0, GREATEST, 0);
        row(operation, 0, LEAST, 0);
        row(operation, 0, MOST, 0);
    }

    private static void ofThreeWords() {
        CHECK.sentence("Terms: 7 ADDMOD (x + y) % z of the words", () -> {
            row(7, 1, 3, 4, 6);
            row(7, 0, 3, 4, 7);
            row(7, 7, 3, 4, 8);
            row(7, 0, 3, 4, 1);
            row(7, LEAST, LEAST, 0, MOST);
            row(7, 7, 3, 4, MOST);
            row(7, 5, MOST, 0, 10);
            row(7, 5, 0, MOST, 10);
        });
        CHECK.sentence("Terms: ADDMOD the sum not cut off", () -> {
            row(7, 1, MOST, 2, 2);
            row(7, below(MOST), MOST, below(MOST), MOST);
            row(7, 1, LEAST, LEAST, MOST);
            row(7, 0, MOST, MOST, MOST);
        });
        CHECK.sentence("Terms: 8 MULMOD (x * y) % z of the words", () -> {
            row(8, 2, 3, 4, 5);
            row(8, 0, 3, 4, 12);
            row(8, 12, 3, 4, 13);
            row(8, 0, 3, 4, 1);
            row(8, LEAST, LEAST, 1, MOST);
            row(8, 12, 3, 4, MOST);
            row(8, 5, MOST, 1, 10);
            row(8, 5, 1, MOST, 10);
        });
        CHECK.sentence("Terms: MULMOD the product not cut off", () -> {
            row(8, 9, MOST, MOST, 12);
            row(8, 1, below(MOST), below(MOST), MOST);
            row(8, 1, Words.power(128), Words.power(128), MOST);
            row(8, 0, MOST, MOST, MOST);
            row(8, Words.power(254), LEAST, LEAST, MOST);
        });
        CHECK.sentence("Terms: ADDMOD 0 when z is 0", () -> thirdIsZero(7));
        CHECK.sentence("Terms: MULMOD 0 when z is 0", () -> thirdIsZero(8));
    }

    private static void thirdIsZero(int operation) {
        row(operation, 0, 3, 4, 0);
        row(operation, 0, 0, 0, 0);
        row(operation, 0, MOST, MOST, 0);
    }

    private static void powers() {
        row(9, 1024, 2, 10);
        row(9, 0, 0, 5);
        row(9, 0, 0, 1);
        row(9, 0, 0, MOST);
        row(9, 1, 1, MOST);
        row(9, MOST, MOST, 1);
        row(9, LEAST, 2, 255);
        row(9, BigInteger.valueOf(3).pow(161), 3, 161);
        row(9, BigInteger.TEN.pow(77), 10, 77);
    }

    private static void zerothPowers() {
        row(9, 1, 0, 0);
        row(9, 1, 1, 0);
        row(9, 1, 7, 0);
        row(9, 1, MOST, 0);
        row(9, 1, LEAST, 0);
    }

    private static void signExtensions() {
        CHECK.sentence("Terms: 10 SIGNEXTEND all bits above bit 8 * x + 7 become what that bit is", () -> {
            row(10, -1, 0, 0xff);
            row(10, -128, 0, 0x80);
            row(10, 0x7f, 0, 0x7f);
            row(10, 0x7f, 0, 0xff7f);
            row(10, -0x8000, 1, 0x8000);
            for (int x = 0; x < 31; x++) {
                extendedAt(x);
            }
        });
        CHECK.sentence("Terms: SIGNEXTEND if x is below 31", () -> {
            row(10, 0, 30, Words.power(248));
            row(10, Words.power(247).negate(), 30, Words.power(247));
            for (int x = 31; x <= 34; x++) {
                row(10, Words.power(248), x, Words.power(248));
                row(10, Words.power(247), x, Words.power(247));
                row(10, LEAST, x, LEAST);
                row(10, 0xff80, x, 0xff80);
            }
            for (BigInteger x : farAboveEveryPlace()) {
                row(10, 0xff80, x, 0xff80);
                row(10, LEAST, x, LEAST);
            }
        });
    }

    private static void extendedAt(int x) {
        BigInteger sign = Words.power(8 * x + 7);
        row(10, sign.negate(), x, sign);
        row(10, below(sign), x, below(sign));
        row(10, 0, x, sign.shiftLeft(1).negate());
        row(10, sign.negate(), x, sign.negate());
        row(10, below(sign), x, above(sign).negate());
    }

    /** Words above every byte and bit of a word, of which the lowest part alone may look as if they were not. */
    private static List<BigInteger> farAboveEveryPlace() {
        List<BigInteger> far = new ArrayList<>();
        for (int bit : new int[] {9, 16, 31, 32, 63, 64, 95, 96, 128, 160, 192, 224, 255}) {
            far.add(Words.power(bit));
            far.add(Words.power(bit).add(BigInteger.valueOf(5)));
        }
        far.add(MOST);
        return far;
    }

    private static void comparisons() {
        CHECK.sentence("Terms: 11 LT 1 when x is less than y, otherwise 0", () -> compared(11, false, 1, 0));
        CHECK.sentence("Terms: 12 GT 1 when x is greater than y, otherwise 0", () -> compared(12, false, 0, 1));
        CHECK.sentence("Terms: 13 SLT less as signed values", () -> compared(13, true, 1, 0));
        CHECK.sentence("Terms: 14 SGT greater as signed values", () -> compared(14, true, 0, 1));
        CHECK.sentence("Terms: 15 EQ 1 when x is equal to y, otherwise 0", () -> {
            row(15, 1, 4, 4);
            row(15, 1, 0, 0);
            row(15, 1, MOST, MOST);
            row(15, 1, COUNTED, COUNTED);
            for (int bit = 0; bit < 256; bit++) {
                row(15, 0, COUNTED, COUNTED.flipBit(bit));
            }
        });
        CHECK.sentence("Terms: 16 ISZERO 1 when x is 0, otherwise 0", () -> {
            row(16, 1, 0);
            row(16, 0, MOST);
            for (int bit = 0; bit < 256; bit++) {
                row(16, 0, Words.power(bit));
            }
        });
        CHECK.sentence("Terms: Its SIGNED value is itself below 2^255, otherwise itself less 2^256", () -> {
            row(13, 1, LEAST, GREATEST);
            row(13, 0, GREATEST, LEAST);
            row(14, 1, 0, LEAST);
            row(14, 1, GREATEST, 0);
            row(4, -1, below(MOST), 2);
            row(6, GREATEST, GREATEST, LEAST);
            row(24, -1, 255, LEAST);
            row(24, 0, 255, GREATEST);
        });
    }

    /** What the operation answers when x comes before y and when it comes behind it; when neither, 0. */
    private static void compared(int operation, boolean signed, int before, int behind) {
        BigInteger[] upper = {LEAST, above(LEAST), below(MOST), MOST};
        BigInteger[] lower = {BigInteger.ZERO, BigInteger.ONE, Words.power(32), Words.power(64), GREATEST};
        List<BigInteger> ordered = new ArrayList<>(Arrays.asList(signed ? upper : lower));
        ordered.addAll(Arrays.asList(signed ? lower : upper));
        for (int i = 0; i < ordered.size(); i++) {
            for (int j = 0; j < ordered.size(); j++) {
                row(operation, i < j ? before : i > j ? behind : 0, ordered.get(i), ordered.get(j));
            }
        }
    }

    private static void bits() {
        CHECK.sentence("Terms: 17 AND bit by bit", () -> bitByBit(17, 8));
        CHECK.sentence("Terms: 18 OR bit by bit", () -> bitByBit(18, 14));
        CHECK.sentence("Terms: 19 XOR bit by bit", () -> bitByBit(19, 6));
        CHECK.sentence("Terms: 20 NOT every bit of x turned round", () -> {
            row(20, MOST, 0);
            row(20, 0, MOST);
            row(20, 4, -5);
            for (int bit = 0; bit < 256; bit++) {
                row(20, MOST.flipBit(bit), Words.power(bit));
            }
        });
    }

    /** Of 12 and 10 the bits meet in all four ways: here at every place of the word. */
    private static void bitByBit(int operation, long want) {
        for (int place = 0; place <= 252; place += 4) {
            row(operation, BigInteger.valueOf(want).shiftLeft(place), BigInteger.valueOf(12).shiftLeft(place),
                    BigInteger.valueOf(10).shiftLeft(place));
        }
    }

    private static void bytes() {
        for (int x = 0; x <= 31; x++) {
            row(21, x + 1, x, COUNTED);
            row(21, 255, x, MOST);
        }
        row(21, 128, 0, LEAST);
        row(21, 255, 31, 255);
        row(21, 0, 30, 255);
    }

    private static void bytesAboveTheLast() {
        for (int x : new int[] {32, 33, 36, 63, 64, 255, 256, 257, 287}) {
            row(21, 0, x, MOST);
        }
        for (BigInteger x : farAboveEveryPlace()) {
            row(21, 0, x, MOST);
        }
    }

    private static void shifts() {
        CHECK.sentence("Terms: 22 SHL y * 2^x", () -> {
            for (int x = 0; x <= 255; x++) {
                row(22, COUNTED.shiftLeft(x), x, COUNTED);
                row(22, Words.power(x), x, 1);
            }
        });
        CHECK.sentence("Terms: 23 SHR y / 2^x without remainder", () -> {
            for (int x = 0; x <= 255; x++) {
                row(23, below(Words.power(256 - x)), x, MOST);
                row(23, COUNTED.shiftRight(x), x, COUNTED);
            }
        });
        CHECK.sentence("Terms: 24 SAR the signed value of y divided by 2^x", () -> {
            for (int x = 0; x <= 255; x++) {
                row(24, Words.power(255 - x).negate(), x, LEAST);
                row(24, COUNTED.shiftRight(x), x, COUNTED);
            }
        });
        CHECK.sentence("Terms: SAR rounded down", () -> {
            row(24, -2, 1, -3);
            row(24, -1, 1, -1);
            row(24, -1, 200, -1);
            row(24, 1, 1, 3);
            row(24, 0, 2, 3);
            row(24, -1, 255, above(LEAST));
        });
        CHECK.sentence("Terms: SHL y * 2^x, no bit of which is left in the word", () -> shiftedOut(22, 0));
        CHECK.sentence("Terms: SHR y / 2^x, less than 1", () -> shiftedOut(23, 0));
        CHECK.sentence("Terms: SAR by 2^x, more than the word has, rounded down", () -> shiftedOut(24, -1));
    }

    private static void shiftedOut(int operation, int wantOfUpper) {
        List<BigInteger> shifts = farAboveEveryPlace();
        for (int x : new int[] {256, 257, 287, 288, 289, 511}) {
            shifts.add(Words.word(x));
        }
        for (BigInteger x : shifts) {
            row(operation, wantOfUpper, x, MOST);
            row(operation, wantOfUpper, x, LEAST);
            row(operation, 0, x, GREATEST);
            row(operation, 0, x, 0);
        }
    }

    private static void wrapAround() {
        CHECK.sentence("Terms: they wrap around, ADD above 2^256 - 1", () -> {
            row(0, 0, MOST, 1);
            row(0, below(MOST), MOST, MOST);
            row(0, 0, LEAST, LEAST);
        });
        CHECK.sentence("Terms: they wrap around, MUL above 2^256 - 1", () -> {
            row(1, 1, MOST, MOST);
            row(1, 0, Words.power(128), Words.power(128));
            row(1, 0, LEAST, 2);
            row(1, LEAST, LEAST, MOST);
            row(1, -6, -2, 3);
        });
        CHECK.sentence("Terms: they wrap around, SUB below 0", () -> {
            row(2, MOST, 2, 3);
            row(2, MOST, 0, 1);
            row(2, 1, 0, MOST);
            row(2, LEAST, 0, LEAST);
        });
        CHECK.sentence("Terms: they wrap around, SDIV above 2^255 - 1", () -> row(4, LEAST, LEAST, -1));
        CHECK.sentence("Terms: they wrap around, EXP above 2^256 - 1", () -> {
            row(9, 0, 2, 256);
            row(9, 9, -3, 2);
            row(9, MOST, MOST, MOST);
            row(9, 1, MOST, below(MOST));
            row(9, 0, 2, MOST);
            row(9, BigInteger.TEN.pow(78), 10, 78);
            row(9, BigInteger.valueOf(3).pow(162), 3, 162);
        });
        CHECK.sentence("Terms: they wrap around, SHL above 2^256 - 1", () -> {
            row(22, LEAST, 255, MOST);
            row(22, 0, 1, LEAST);
            row(22, below(MOST), 1, MOST);
        });
    }

    private static void taking() {
        CHECK.sentence("Terms: the top is its x, the next one its y, the third its z", () -> {
            row(2, 7, 10, 3);
            row(3, 3, 10, 3);
            row(9, 1000, 10, 3);
            row(7, 4, 10, 3, 9);
            row(8, 3, 10, 3, 9);
            row(22, 40, 2, 10);
        });
        CHECK.sentence("Terms: ISZERO (takes x alone)", () -> takes(16, 1));
        CHECK.sentence("Terms: NOT (takes x alone)", () -> takes(20, 1));
        CHECK.sentence("Terms: 7 and 8 take three words", () -> {
            takes(7, 3);
            takes(8, 3);
        });
        CHECK.sentence("Terms: all others not said to take one take two", () -> {
            for (int operation = 0; operation <= 24; operation++) {
                if (taken(operation) == 2) {
                    takes(operation, 2);
                }
            }
        });
    }

    private static int taken(int operation) {
        return operation == 16 || operation == 20 ? 1 : operation == 7 || operation == 8 ? 3 : 2;
    }

    private static void takes(int operation, int words) {
        for (int n = words; n <= 12; n++) {
            WideWordStack stack = upTo(n);
            CHECK.due("wrapping(" + operation + ") of " + n, Check.answer(stack, s -> s.wrapping(operation)),
                    n - words + 1);
            CHECK.leaves("drop() of its result", stack, WideWordStack::drop, n - words,
                    Words.listed(Words.from(words + 1, n)), KEPT);
        }
    }

    private static WideWordStack upTo(int n) {
        return Words.type(Words.upTo(n), KEPT);
    }

    private static void answersAndRefusals() {
        CHECK.sentence("Promise 9: Does operation 0 .. 24", () -> {
            row(0, 13, 10, 3);
            row(24, 3, 2, 12);
        });
        CHECK.sentence("Promise 9: Answers how many words there are then", () -> {
            for (int operation = 0; operation <= 24; operation++) {
                int op = operation;
                int least = taken(op);
                CHECK.due("wrapping(" + op + ") of " + least, Check.answer(upTo(least), s -> s.wrapping(op)), 1);
                CHECK.due("wrapping(" + op + ") of 12", Check.answer(upTo(12), s -> s.wrapping(op)), 13 - least);
            }
        });
        CHECK.sentence("Promise 9: IllegalArgumentException when there is no such operation",
                () -> noSuchOperation(3, 12));
        CHECK.sentence("Promise 9: IllegalStateException when there are fewer words than it takes",
                WrappingTest::tooFewWords);
        CHECK.sentence("Promise 9: no such operation and too few words, the first exception",
                () -> noSuchOperation(0, 2));
    }

    private static void noSuchOperation(int leastWords, int mostWords) {
        for (int operation : new int[] {-1, 25, 26, -2, 32, 255, 256, Integer.MIN_VALUE, Integer.MAX_VALUE}) {
            for (int words = leastWords; words <= mostWords; words++) {
                CHECK.keeps("wrapping(" + operation + ") of " + words, upTo(words), s -> s.wrapping(operation),
                        ARGUMENT);
            }
        }
    }

    private static void tooFewWords() {
        for (int operation = 0; operation <= 24; operation++) {
            int op = operation;
            for (int words = 0; words < taken(op); words++) {
                CHECK.keeps("wrapping(" + op + ") of " + words, upTo(words), s -> s.wrapping(op), STATE);
            }
        }
    }
}
