import java.math.BigInteger;
import java.util.List;

/** Promises 10 to 12: the exact operations, checked and held to the nearest bound. */
public final class ExactTest {
    private static final Check CHECK = new Check("ExactTest");
    private static final String ARITHMETIC = "throws.ArithmeticException";
    private static final BigInteger LEAST = Words.HALF;
    private static final BigInteger GREATEST = Words.HALF.subtract(BigInteger.ONE);
    private static final BigInteger MOST = Words.word(-1);
    private static final BigInteger ONE = BigInteger.ONE;
    private static final BigInteger ZERO = BigInteger.ZERO;

    public static void main(String[] args) {
        writtenUnsigned();
        writtenSigned();
        writtenDivisions();
        edges();
        noSuchOperation();
        tooFewWords();
        CHECK.finish();
    }

    /** The bound is what nearest puts there; checked refuses when it is not the result itself. */
    private static void row(int operation, boolean signed, BigInteger x, BigInteger y, boolean fits, BigInteger bound) {
        String call = "(" + operation + ", " + signed + ") of " + x + " and " + y;
        WideWordStack one = Words.stackOf(x, y, Words.word(5));
        String before = Words.stackText(one);
        CHECK.due("fits" + call, one.fits(operation, signed), fits);
        CHECK.due("stack after fits" + call, Words.stackText(one), before);
        CHECK.due("checked" + call, Check.answer(() -> one.checked(operation, signed)), fits ? "2" : ARITHMETIC);
        CHECK.due("stack after checked" + call, Words.stackText(one), fits ? bound + " 5" : before);
        WideWordStack other = Words.stackOf(x, y, Words.word(5));
        CHECK.due("nearest" + call, Check.answer(() -> other.nearest(operation, signed)),
                bound == null ? ARITHMETIC : "2");
        CHECK.due("stack after nearest" + call, Words.stackText(other), bound == null ? before : bound + " 5");
    }

    private static void writtenUnsigned() {
        row(0, false, Words.word(2), Words.word(3), true, Words.word(5));
        row(0, false, MOST, ONE, false, MOST);
        row(0, false, MOST.subtract(ONE), ONE, true, MOST);
        row(0, false, MOST, MOST, false, MOST);
        row(1, false, Words.word(2), Words.word(3), true, Words.word(6));
        row(1, false, ONE.shiftLeft(128), ONE.shiftLeft(128), false, MOST);
        row(1, false, ONE.shiftLeft(128), ONE.shiftLeft(127), true, LEAST);
        row(1, false, MOST, MOST, false, MOST);
        row(1, false, MOST, ZERO, true, ZERO);
        row(2, false, Words.word(3), Words.word(3), true, ZERO);
        row(2, false, Words.word(3), Words.word(4), false, ZERO);
        row(2, false, ZERO, MOST, false, ZERO);
    }

    private static void writtenSigned() {
        row(0, true, GREATEST, ONE, false, GREATEST);
        row(0, true, LEAST, MOST, false, LEAST);
        row(0, true, LEAST, LEAST, false, LEAST);
        row(0, true, MOST, ONE, true, ZERO);
        row(0, true, LEAST, GREATEST, true, MOST);
        row(1, true, LEAST, MOST, false, GREATEST);
        row(1, true, LEAST, ONE, true, LEAST);
        row(1, true, Words.word(-2), Words.word(3), true, Words.word(-6));
        row(1, true, LEAST, GREATEST, false, LEAST);
        row(1, true, Words.word(-1).shiftLeft(127).mod(Words.END), ONE.shiftLeft(128), true, LEAST);
        row(1, true, ONE.shiftLeft(127), ONE.shiftLeft(128), false, GREATEST);
        row(1, true, ZERO, MOST, true, ZERO);
        row(2, true, ZERO, LEAST, false, GREATEST);
        row(2, true, MOST, LEAST, true, GREATEST);
        row(2, true, LEAST, ONE, false, LEAST);
        row(2, true, Words.word(3), Words.word(4), true, MOST);
    }

    private static void writtenDivisions() {
        row(3, false, Words.word(7), Words.word(2), true, Words.word(3));
        row(3, false, LEAST, MOST, true, ZERO);
        row(3, true, LEAST, MOST, false, GREATEST);
        row(3, true, Words.word(-7), Words.word(2), true, Words.word(-3));
        row(3, true, Words.word(-1), Words.word(2), true, ZERO);
        row(4, false, Words.word(7), Words.word(4), true, Words.word(3));
        row(4, true, Words.word(-7), Words.word(4), true, Words.word(-3));
        row(4, true, Words.word(7), Words.word(-4), true, Words.word(3));
        row(4, true, Words.word(-8), Words.word(4), true, ZERO);
        row(4, true, LEAST, MOST, true, ZERO);
        for (boolean signed : new boolean[] {false, true}) {
            row(3, signed, Words.word(7), ZERO, false, null);
            row(4, signed, Words.word(7), ZERO, false, null);
            row(3, signed, ZERO, ZERO, false, null);
            row(4, signed, ZERO, ZERO, false, null);
            row(3, signed, ZERO, Words.word(7), true, ZERO);
            row(4, signed, ZERO, Words.word(7), true, ZERO);
        }
    }

    private static void edges() {
        List<BigInteger> edges = Words.edges();
        for (int operation = 0; operation <= 4; operation++) {
            for (BigInteger x : edges) {
                for (BigInteger y : edges) {
                    edge(operation, false, x, y);
                    edge(operation, true, x, y);
                }
            }
        }
    }

    private static void edge(int operation, boolean signed, BigInteger x, BigInteger y) {
        BigInteger result = Model.exact(operation, signed, x, y);
        if (result == null) {
            row(operation, signed, x, y, false, null);
        } else {
            BigInteger bound = result.max(Model.least(signed)).min(Model.greatest(signed));
            row(operation, signed, x, y, Model.inRange(result, signed), Words.word(bound));
        }
    }

    private static void noSuchOperation() {
        for (int operation : new int[] {-1, 5, 24, Integer.MIN_VALUE, Integer.MAX_VALUE}) {
            for (boolean signed : new boolean[] {false, true}) {
                for (WideWordStack stack : new WideWordStack[] {new WideWordStack(), Words.stackOf(1, 0)}) {
                    refused(stack, operation, signed, "throws.IllegalArgumentException");
                }
            }
        }
    }

    private static void tooFewWords() {
        for (int operation = 0; operation <= 4; operation++) {
            for (boolean signed : new boolean[] {false, true}) {
                refused(new WideWordStack(), operation, signed, "throws.IllegalStateException");
                refused(Words.stackOf(0), operation, signed, "throws.IllegalStateException");
            }
        }
    }

    private static void refused(WideWordStack stack, int operation, boolean signed, String want) {
        String before = Words.stackText(stack);
        String call = "(" + operation + ", " + signed + ") on " + before;
        CHECK.due("checked" + call, Check.answer(() -> stack.checked(operation, signed)), want);
        CHECK.due("nearest" + call, Check.answer(() -> stack.nearest(operation, signed)), want);
        CHECK.due("fits" + call, Check.answer(() -> stack.fits(operation, signed)), false);
        CHECK.due("stack after these", Words.stackText(stack), before);
    }
}
