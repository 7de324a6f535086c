import java.math.BigInteger;

/** Promises 10 to 12 and the terms of the exact operations, a test for each sentence. */
public final class ExactTest {
    private static final Check CHECK = new Check("ExactTest");
    private static final String ARGUMENT = "throws.IllegalArgumentException";
    private static final String STATE = "throws.IllegalStateException";
    private static final String ARITHMETIC = "throws.ArithmeticException";
    // A text that no operation may touch.
    private static final String KEPT = "kept";
    private static final BigInteger MOST = Words.MOST;
    private static final BigInteger LEAST = Words.SIGNED_LEAST;
    private static final BigInteger GREATEST = Words.SIGNED_MOST;
    private static final boolean[] BOTH = {false, true};
    private static final int[] NO_OPERATIONS = {-1, 5, 6, 7, 8, 24, -5, 256, Integer.MIN_VALUE, Integer.MAX_VALUE};

    /** The two calls that do an exact operation, and the numbers of their promises. */
    private enum Kind {
        CHECKED("checked", "Promise 10: "), NEAREST("nearest", "Promise 11: ");

        private final String call;
        private final String promise;

        Kind(String call, String promise) {
            this.call = call;
            this.promise = promise;
        }

        private Object on(WideWordStack stack, int operation, boolean signed) {
            return this == CHECKED ? stack.checked(operation, signed) : stack.nearest(operation, signed);
        }
    }

    public static void main(String[] args) {
        CHECK.sentence("Terms: 0 x + y", ExactTest::sums);
        CHECK.sentence("Terms: 1 x * y", ExactTest::products);
        CHECK.sentence("Terms: 2 x - y", ExactTest::differences);
        CHECK.sentence("Terms: 3 x / y, quotients cut off towards 0", ExactTest::quotients);
        CHECK.sentence("Terms: 4 x % y, the remainder with the sign of x", ExactTest::remainders);
        CHECK.sentence("Terms: either of the words or of the signed values", ExactTest::wordsOrSignedValues);
        CHECK.sentence("Terms: The RANGE is 0 .. 2^256 - 1", ExactTest::bothEndsOfTheWords);
        CHECK.sentence("Terms: or -2^255 .. 2^255 - 1 for signed values", ExactTest::bothEndsOfTheSignedValues);
        for (Kind kind : Kind.values()) {
            answerSentences(kind);
            refusalSentences(kind);
            firstExceptionSentences(kind);
        }
        outOfRangeSentences();
        nearestSentences();
        fitsSentences();
        CHECK.finish();
    }

    private static WideWordStack of(Number... words) {
        return Words.type(Words.stackOf(words), KEPT);
    }

    private static String told(String call, int operation, boolean signed, Number... words) {
        return call + "(" + operation + ", " + signed + ") of " + Words.listed(words);
    }

    private static void becomes(Kind kind, int operation, boolean signed, Number x, Number y, Number want) {
        CHECK.leaves(told(kind.call, operation, signed, x, y), of(x, y, 77), s -> kind.on(s, operation, signed), 2,
                Words.listed(want, 77), KEPT);
    }

    private static void refused(Kind kind, int operation, boolean signed, String want, Number... words) {
        CHECK.keeps(told(kind.call, operation, signed, words), of(words), s -> kind.on(s, operation, signed), want);
    }

    private static void fits(int operation, boolean signed, boolean want, Number... words) {
        CHECK.keeps(told("fits", operation, signed, words), of(words), s -> s.fits(operation, signed), want);
    }

    /** A result in the range: all three calls know it. */
    private static void inRange(int operation, boolean signed, Number x, Number y, Number want) {
        becomes(Kind.CHECKED, operation, signed, x, y, want);
        becomes(Kind.NEAREST, operation, signed, x, y, want);
        fits(operation, signed, true, x, y, 77);
    }

    /** A result out of the range, and the bound next to it. */
    private static void outOfRange(int operation, boolean signed, Number x, Number y, Number bound) {
        refused(Kind.CHECKED, operation, signed, ARITHMETIC, x, y);
        becomes(Kind.NEAREST, operation, signed, x, y, bound);
        fits(operation, signed, false, x, y);
    }

    private static void sums() {
        inRange(0, false, 2, 3, 5);
        inRange(0, false, 0, 0, 0);
        inRange(0, true, 2, 3, 5);
        inRange(0, true, -2, 3, 1);
        inRange(0, true, 2, -3, -1);
        inRange(0, true, -2, -3, -5);
        inRange(0, true, 3, -3, 0);
        inRange(0, true, LEAST, GREATEST, -1);
    }

    private static void products() {
        inRange(1, false, 2, 3, 6);
        inRange(1, false, MOST, 0, 0);
        inRange(1, false, 0, MOST, 0);
        inRange(1, true, 2, 3, 6);
        inRange(1, true, -2, 3, -6);
        inRange(1, true, 2, -3, -6);
        inRange(1, true, -2, -3, 6);
        inRange(1, true, -2, 0, 0);
        inRange(1, true, 0, LEAST, 0);
    }

    private static void differences() {
        inRange(2, false, 10, 3, 7);
        inRange(2, false, 3, 3, 0);
        inRange(2, true, 10, 3, 7);
        inRange(2, true, 3, 10, -7);
        inRange(2, true, -3, -10, 7);
        inRange(2, true, -3, 10, -13);
        inRange(2, true, 3, -10, 13);
        inRange(2, true, 0, -10, 10);
        inRange(2, true, -3, -3, 0);
        inRange(2, true, LEAST, LEAST, 0);
    }

    private static void quotients() {
        inRange(3, false, 7, 2, 3);
        inRange(3, false, 6, 7, 0);
        inRange(3, false, 0, 7, 0);
        inRange(3, false, MOST, MOST, 1);
        inRange(3, true, 7, 2, 3);
        inRange(3, true, -7, 2, -3);
        inRange(3, true, 7, -2, -3);
        inRange(3, true, -7, -2, 3);
        inRange(3, true, -1, 2, 0);
        inRange(3, true, 0, -7, 0);
        inRange(3, true, LEAST, LEAST, 1);
    }

    private static void remainders() {
        inRange(4, false, 7, 4, 3);
        inRange(4, false, 6, 7, 6);
        inRange(4, false, 0, 7, 0);
        inRange(4, false, LEAST, MOST, LEAST);
        inRange(4, true, 7, 4, 3);
        inRange(4, true, -7, 4, -3);
        inRange(4, true, 7, -4, 3);
        inRange(4, true, -7, -4, -3);
        inRange(4, true, -8, 4, 0);
        inRange(4, true, LEAST, -1, 0);
        inRange(4, true, LEAST, GREATEST, -1);
    }

    private static void wordsOrSignedValues() {
        outOfRange(0, false, -1, 1, MOST);
        inRange(0, true, -1, 1, 0);
        inRange(0, false, GREATEST, 1, LEAST);
        outOfRange(0, true, GREATEST, 1, GREATEST);
        outOfRange(1, false, -1, -1, MOST);
        inRange(1, true, -1, -1, 1);
        outOfRange(2, false, 3, 4, 0);
        inRange(2, true, 3, 4, -1);
        inRange(3, false, -7, 2, Words.HALF.subtract(BigInteger.valueOf(4)));
        inRange(3, true, -7, 2, -3);
        inRange(3, false, LEAST, MOST, 0);
        outOfRange(3, true, LEAST, MOST, GREATEST);
        inRange(4, false, -7, 4, 1);
        inRange(4, true, -7, 4, -3);
    }

    private static void bothEndsOfTheWords() {
        inRange(0, false, MOST.subtract(BigInteger.ONE), 1, MOST);
        outOfRange(0, false, MOST, 1, MOST);
        inRange(1, false, Words.power(128).subtract(BigInteger.ONE), Words.power(128).add(BigInteger.ONE), MOST);
        outOfRange(1, false, Words.power(128), Words.power(128), MOST);
        inRange(1, false, MOST, 1, MOST);
        inRange(2, false, 7, 7, 0);
        outOfRange(2, false, 7, 8, 0);
        inRange(2, false, MOST, 0, MOST);
        inRange(3, false, MOST, 1, MOST);
        inRange(4, false, MOST.subtract(BigInteger.ONE), MOST, MOST.subtract(BigInteger.ONE));
    }

    private static void bothEndsOfTheSignedValues() {
        inRange(0, true, GREATEST.subtract(BigInteger.ONE), 1, GREATEST);
        outOfRange(0, true, GREATEST, 1, GREATEST);
        inRange(0, true, LEAST.add(BigInteger.ONE), -1, LEAST);
        outOfRange(0, true, LEAST, -1, LEAST);
        inRange(1, true, Words.power(127).negate(), Words.power(128), LEAST);
        outOfRange(1, true, Words.power(127), Words.power(128), GREATEST);
        inRange(1, true, GREATEST, -1, LEAST.add(BigInteger.ONE));
        outOfRange(1, true, LEAST, -1, GREATEST);
        inRange(2, true, -1, LEAST, GREATEST);
        outOfRange(2, true, 0, LEAST, GREATEST);
        inRange(2, true, -1, GREATEST, LEAST);
        outOfRange(2, true, -2, GREATEST, LEAST);
        inRange(3, true, LEAST, 1, LEAST);
        outOfRange(3, true, LEAST, -1, GREATEST);
        inRange(3, true, GREATEST, -1, LEAST.add(BigInteger.ONE));
        inRange(4, true, GREATEST, LEAST, GREATEST);
    }

    private static void answerSentences(Kind kind) {
        CHECK.sentence(kind.promise + "Does the exact operation 0 .. 4", () -> {
            int[] wanted = {13, 30, 7, 3, 1};
            for (boolean signed : BOTH) {
                for (int operation = 0; operation <= 4; operation++) {
                    becomes(kind, operation, signed, 10, 3, wanted[operation]);
                }
            }
        });
        CHECK.sentence(kind.promise + "Answers how many words there are then", () -> {
            for (int n = 2; n <= 12; n++) {
                Number[] words = Words.from(1, n);
                words[0] = 10;
                Number[] left = Words.from(2, n);
                left[0] = 12;
                CHECK.leaves(told(kind.call, 0, false, words), of(words), s -> kind.on(s, 0, false), n - 1,
                        Words.listed(left), KEPT);
            }
        });
        CHECK.sentence(kind.promise + "y is 0 in 0, 1 and 2, which is no division", () -> {
            for (boolean signed : BOTH) {
                becomes(kind, 0, signed, 7, 0, 7);
                becomes(kind, 1, signed, 7, 0, 0);
                becomes(kind, 2, signed, 7, 0, 7);
            }
        });
    }

    private static void refusalSentences(Kind kind) {
        CHECK.sentence(kind.promise + "IllegalArgumentException when there is no such operation", () -> {
            for (boolean signed : BOTH) {
                for (int operation : NO_OPERATIONS) {
                    refused(kind, operation, signed, ARGUMENT, 7, 2);
                    refused(kind, operation, signed, ARGUMENT, Words.from(1, 12));
                }
            }
        });
        CHECK.sentence(kind.promise + "IllegalStateException when there are fewer than two words", () -> {
            for (boolean signed : BOTH) {
                for (int operation = 0; operation <= 4; operation++) {
                    refused(kind, operation, signed, STATE);
                    refused(kind, operation, signed, STATE, 7);
                    refused(kind, operation, signed, STATE, 0);
                }
            }
        });
        CHECK.sentence(kind.promise + "ArithmeticException when y is 0 in 3", () -> dividedByZero(kind, 3));
        CHECK.sentence(kind.promise + "ArithmeticException when y is 0 in 4", () -> dividedByZero(kind, 4));
    }

    private static void dividedByZero(Kind kind, int operation) {
        for (boolean signed : BOTH) {
            for (Number x : new Number[] {7, 0, 1, GREATEST, LEAST, MOST}) {
                refused(kind, operation, signed, ARITHMETIC, x, 0);
                refused(kind, operation, signed, ARITHMETIC, x, 0, 5);
            }
        }
    }

    private static void firstExceptionSentences(Kind kind) {
        CHECK.sentence(kind.promise + "no such operation and too few words, the first exception", () -> {
            for (int operation : NO_OPERATIONS) {
                refused(kind, operation, false, ARGUMENT);
                refused(kind, operation, true, ARGUMENT, 7);
            }
        });
        CHECK.sentence(kind.promise + "no such operation and y is 0, the first exception", () -> {
            for (int operation : NO_OPERATIONS) {
                refused(kind, operation, false, ARGUMENT, 7, 0);
                refused(kind, operation, true, ARGUMENT, 7, 0, 5);
            }
        });
    }

    private static void outOfRangeSentences() {
        CHECK.sentence("Promise 10: no such operation and no such result, the first exception", () -> {
            for (int operation : NO_OPERATIONS) {
                refused(Kind.CHECKED, operation, false, ARGUMENT, MOST, MOST);
                refused(Kind.CHECKED, operation, true, ARGUMENT, LEAST, -1);
            }
        });
        CHECK.sentence("Promise 10: ArithmeticException when the result is above 2^256 - 1", () -> {
            refused(Kind.CHECKED, 0, false, ARITHMETIC, 1, MOST, 5);
            refused(Kind.CHECKED, 0, false, ARITHMETIC, LEAST, LEAST);
            refused(Kind.CHECKED, 0, false, ARITHMETIC, MOST, MOST);
            refused(Kind.CHECKED, 1, false, ARITHMETIC, LEAST, 2);
            refused(Kind.CHECKED, 1, false, ARITHMETIC, Words.power(192), Words.power(64));
            refused(Kind.CHECKED, 1, false, ARITHMETIC, MOST, MOST);
        });
        CHECK.sentence("Promise 10: ArithmeticException when the result is below 0, of the words", () -> {
            refused(Kind.CHECKED, 2, false, ARITHMETIC, 0, 1);
            refused(Kind.CHECKED, 2, false, ARITHMETIC, 0, MOST, 5);
            refused(Kind.CHECKED, 2, false, ARITHMETIC, GREATEST, LEAST);
        });
        CHECK.sentence("Promise 10: ArithmeticException when the result is above 2^255 - 1, of signed values", () -> {
            refused(Kind.CHECKED, 0, true, ARITHMETIC, 1, GREATEST);
            refused(Kind.CHECKED, 0, true, ARITHMETIC, GREATEST, GREATEST, 5);
            refused(Kind.CHECKED, 1, true, ARITHMETIC, -1, LEAST);
            refused(Kind.CHECKED, 1, true, ARITHMETIC, LEAST, LEAST);
            refused(Kind.CHECKED, 1, true, ARITHMETIC, GREATEST, GREATEST);
            refused(Kind.CHECKED, 2, true, ARITHMETIC, GREATEST, -1);
            refused(Kind.CHECKED, 2, true, ARITHMETIC, 0, LEAST);
            refused(Kind.CHECKED, 3, true, ARITHMETIC, LEAST, -1, 5);
        });
        CHECK.sentence("Promise 10: ArithmeticException when the result is below -2^255", () -> {
            refused(Kind.CHECKED, 0, true, ARITHMETIC, -1, LEAST);
            refused(Kind.CHECKED, 0, true, ARITHMETIC, LEAST, LEAST, 5);
            refused(Kind.CHECKED, 1, true, ARITHMETIC, LEAST, 2);
            refused(Kind.CHECKED, 1, true, ARITHMETIC, LEAST, GREATEST);
            refused(Kind.CHECKED, 2, true, ARITHMETIC, LEAST, 1);
            refused(Kind.CHECKED, 2, true, ARITHMETIC, -2, GREATEST);
        });
    }

    private static void nearestSentences() {
        CHECK.sentence("Promise 11: a result below the range becomes its least number, of the words", () -> {
            becomes(Kind.NEAREST, 2, false, 0, 1, 0);
            becomes(Kind.NEAREST, 2, false, 0, MOST, 0);
            becomes(Kind.NEAREST, 2, false, GREATEST, LEAST, 0);
        });
        CHECK.sentence("Promise 11: a result below the range becomes its least number, of signed values", () -> {
            becomes(Kind.NEAREST, 0, true, LEAST, -1, LEAST);
            becomes(Kind.NEAREST, 0, true, LEAST, LEAST, LEAST);
            becomes(Kind.NEAREST, 1, true, LEAST, 2, LEAST);
            becomes(Kind.NEAREST, 1, true, LEAST, GREATEST, LEAST);
            becomes(Kind.NEAREST, 2, true, LEAST, 1, LEAST);
            becomes(Kind.NEAREST, 2, true, -2, GREATEST, LEAST);
        });
        CHECK.sentence("Promise 11: one above it its greatest, of the words", () -> {
            becomes(Kind.NEAREST, 0, false, MOST, 1, MOST);
            becomes(Kind.NEAREST, 0, false, LEAST, LEAST, MOST);
            becomes(Kind.NEAREST, 0, false, MOST, MOST, MOST);
            becomes(Kind.NEAREST, 1, false, LEAST, 2, MOST);
            becomes(Kind.NEAREST, 1, false, MOST, MOST, MOST);
        });
        CHECK.sentence("Promise 11: one above it its greatest, of signed values", () -> {
            becomes(Kind.NEAREST, 0, true, GREATEST, 1, GREATEST);
            becomes(Kind.NEAREST, 0, true, GREATEST, GREATEST, GREATEST);
            becomes(Kind.NEAREST, 1, true, LEAST, -1, GREATEST);
            becomes(Kind.NEAREST, 1, true, LEAST, LEAST, GREATEST);
            becomes(Kind.NEAREST, 2, true, 0, LEAST, GREATEST);
            becomes(Kind.NEAREST, 2, true, GREATEST, -1, GREATEST);
            becomes(Kind.NEAREST, 3, true, LEAST, -1, GREATEST);
        });
    }

    private static void fitsSentences() {
        CHECK.sentence("Promise 12: true when checked would throw nothing", () -> {
            for (boolean signed : BOTH) {
                for (int operation = 0; operation <= 4; operation++) {
                    fits(operation, signed, true, 7, 2);
                    fits(operation, signed, true, 7, 2, 3, 4, 5, 6, 7, 8, 9, 10, 11, 12);
                }
            }
        });
        CHECK.sentence("Promise 12: false when checked would throw IllegalArgumentException", () -> {
            for (boolean signed : BOTH) {
                for (int operation : NO_OPERATIONS) {
                    fits(operation, signed, false, 7, 2);
                    fits(operation, signed, false, 7);
                    fits(operation, signed, false);
                }
            }
        });
        CHECK.sentence("Promise 12: false when checked would throw IllegalStateException", () -> {
            for (boolean signed : BOTH) {
                for (int operation = 0; operation <= 4; operation++) {
                    fits(operation, signed, false);
                    fits(operation, signed, false, 7);
                }
            }
        });
        CHECK.sentence("Promise 12: false when the result is not in the range", () -> {
            fits(0, false, false, MOST, 1);
            fits(1, false, false, LEAST, 2);
            fits(2, false, false, 0, 1);
            fits(0, true, false, GREATEST, 1);
            fits(0, true, false, LEAST, -1);
            fits(1, true, false, LEAST, -1);
            fits(1, true, false, LEAST, 2);
            fits(2, true, false, 0, LEAST);
            fits(2, true, false, LEAST, 1);
            fits(3, true, false, LEAST, -1);
        });
        CHECK.sentence("Promise 12: false when y is 0 in 3 and 4", () -> {
            for (boolean signed : BOTH) {
                for (int operation = 3; operation <= 4; operation++) {
                    fits(operation, signed, false, 7, 0);
                    fits(operation, signed, false, 0, 0);
                    fits(operation, signed, false, MOST, 0, 5);
                }
            }
        });
        CHECK.sentence("Promise 12: Whether checked would throw nothing now", ExactTest::fitsNow);
    }

    private static void fitsNow() {
        WideWordStack stack = of(0, 7);
        CHECK.due("fits(3, false) of 0 7", stack.fits(3, false), true);
        stack.swap(1);
        CHECK.due("fits(3, false) of 7 0", stack.fits(3, false), false);
        CHECK.due("fits(2, false) of 7 0", stack.fits(2, false), true);
        stack.swap(1);
        CHECK.due("fits(2, false) of 0 7", stack.fits(2, false), false);
        CHECK.due("fits(2, true) of 0 7", stack.fits(2, true), true);
        stack.drop();
        CHECK.due("fits(2, true) of 7", stack.fits(2, true), false);
    }
}
