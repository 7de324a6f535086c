import java.math.BigInteger;
import java.util.List;

/** Promise 9: the operations that wrap around. */
public final class WrappingTest {
    private static final Check CHECK = new Check("WrappingTest");
    private static final BigInteger LEAST = Words.HALF;
    private static final BigInteger MOST = Words.word(-1);

    public static void main(String[] args) {
        written();
        writtenBits();
        edgesOfOneAndTwo();
        edgesOfThree();
        shiftsByEveryAmount();
        refusals();
        restOfStackStays();
        CHECK.finish();
    }

    private static void row(int operation, BigInteger want, BigInteger... taken) {
        WideWordStack stack = Words.stackOf(taken);
        String call = "wrapping(" + operation + ") of " + List.of(taken);
        CHECK.due(call, Check.answer(() -> stack.wrapping(operation)), 1);
        CHECK.due("the result of " + call, Words.read(stack, 0), want);
    }

    private static void row(int operation, long want, long... taken) {
        BigInteger[] words = new BigInteger[taken.length];
        for (int i = 0; i < taken.length; i++) {
            words[i] = Words.word(taken[i]);
        }
        row(operation, Words.word(want), words);
    }

    /** Answers worked out by hand, so that the model is not the only witness. */
    private static void written() {
        row(0, 5, 2, 3);
        row(0, 0, -1, 1);
        row(1, 6, 2, 3);
        row(1, 1, -1, -1);
        row(2, 1, 3, 2);
        row(2, -1, 2, 3);
        row(3, 3, 7, 2);
        row(3, 0, 7, 0);
        row(3, Words.HALF.subtract(BigInteger.ONE), MOST, BigInteger.TWO);
        row(4, -3, -7, 2);
        row(4, -3, 7, -2);
        row(4, 3, -7, -2);
        row(4, 0, -7, 0);
        row(4, LEAST, LEAST, MOST);
        row(5, 1, 7, 2);
        row(5, 0, 7, 0);
        row(5, 1, -1, 2);
        row(6, -1, -7, 2);
        row(6, 1, 7, -2);
        row(6, -1, -7, -2);
        row(6, 0, -7, 0);
        row(6, BigInteger.ZERO, LEAST, MOST);
        row(7, 1, 3, 4, 6);
        row(7, 0, 3, 4, 0);
        row(7, 1, -1, 2, 2);
        row(7, MOST.subtract(BigInteger.ONE), MOST, MOST.subtract(BigInteger.ONE), MOST);
        row(8, 2, 3, 4, 5);
        row(8, 0, 3, 4, 0);
        row(8, 9, -1, -1, 12);
        row(9, 1024, 2, 10);
        row(9, 1, 0, 0);
        row(9, 1, 7, 0);
        row(9, 0, 0, 5);
        row(9, -1, -1, -1);
        row(9, LEAST, BigInteger.TWO, Words.word(255));
        row(9, 0, 2, 256);
    }

    private static void writtenBits() {
        row(10, -1, 0, 255);
        row(10, 127, 0, 0xff7f);
        row(10, -32768, 1, 0x8000);
        row(10, BigInteger.ZERO, Words.word(30), LEAST);
        row(10, BigInteger.ZERO, Words.word(30), Words.word(1).shiftLeft(248));
        row(10, Words.word(BigInteger.ONE.shiftLeft(247).negate()), Words.word(30), BigInteger.ONE.shiftLeft(247));
        row(10, LEAST, Words.word(31), LEAST);
        row(10, 200, 31, 200);
        row(10, 200, 256, 200);
        row(10, Words.word(200), Words.END.shiftRight(4), Words.word(200));
        row(11, 1, 2, 3);
        row(11, 0, 3, 3);
        row(11, 0, -1, 3);
        row(12, 1, 3, 2);
        row(12, 1, -1, 2);
        row(12, 0, 2, 2);
        row(13, 1, -1, 0);
        row(13, 0, 0, -1);
        row(13, 1, -2, -1);
        row(14, 1, 0, -1);
        row(14, 0, -1, 0);
        row(14, 0, 4, 4);
        row(15, 1, 4, 4);
        row(15, 0, 4, 5);
        row(16, 1, 0);
        row(16, 0, 5);
        row(16, BigInteger.ZERO, LEAST);
        row(17, 8, 12, 10);
        row(18, 14, 12, 10);
        row(19, 6, 12, 10);
        row(20, -1, 0);
        row(20, 4, -5);
        row(21, 0x34, 31, 0x1234);
        row(21, 0x12, 30, 0x1234);
        row(21, Words.word(128), Words.word(0), LEAST);
        row(21, 0, 32, -1);
        row(21, BigInteger.ZERO, Words.END.shiftRight(1), MOST);
        row(22, 12, 2, 3);
        row(22, LEAST, Words.word(255), MOST);
        row(22, 0, 256, 1);
        row(22, BigInteger.ZERO, Words.word(1).shiftLeft(32), MOST);
        row(23, 3, 2, 12);
        row(23, 1, 255, -1);
        row(23, 0, 256, -1);
        row(24, -2, 1, -3);
        row(24, 1, 1, 3);
        row(24, -1, 256, -3);
        row(24, 0, 256, 3);
        row(24, MOST, Words.word(1).shiftLeft(64), LEAST);
    }

    private static void edgesOfOneAndTwo() {
        List<BigInteger> edges = Words.edges();
        for (int operation = 0; operation <= 24; operation++) {
            int taken = Model.taken(operation);
            if (taken == 3) {
                continue;
            }
            for (BigInteger x : edges) {
                for (BigInteger y : taken == 1 ? List.of(x) : edges) {
                    BigInteger want = Model.wrapping(operation, x, y, BigInteger.ZERO);
                    row(operation, want, taken == 1 ? new BigInteger[] {x} : new BigInteger[] {x, y});
                }
            }
        }
    }

    private static void edgesOfThree() {
        List<BigInteger> edges = Words.edges();
        for (BigInteger x : edges) {
            for (int i = 0; i < edges.size(); i += 3) {
                for (int j = i % 5; j < edges.size(); j += 5) {
                    BigInteger y = edges.get(i);
                    BigInteger z = edges.get(j);
                    row(7, Model.wrapping(7, x, y, z), x, y, z);
                    row(8, Model.wrapping(8, x, y, z), x, y, z);
                }
            }
        }
    }

    private static void shiftsByEveryAmount() {
        List<BigInteger> edges = Words.edges();
        for (int bits = 0; bits <= 260; bits++) {
            BigInteger x = Words.word(bits);
            for (int i = edges.size() - 4; i < edges.size(); i++) {
                BigInteger y = edges.get(i);
                for (int operation : new int[] {10, 21, 22, 23, 24}) {
                    row(operation, Model.wrapping(operation, x, y, BigInteger.ZERO), x, y);
                }
            }
        }
    }

    private static void refusals() {
        for (int operation : new int[] {-1, 25, 26, Integer.MIN_VALUE, Integer.MAX_VALUE}) {
            WideWordStack stack = Words.stackOf(1, 2, 3);
            CHECK.due("wrapping(" + operation + ")", Check.answer(() -> stack.wrapping(operation)),
                    "throws.IllegalArgumentException");
            CHECK.due("stack after that", Words.stackText(stack), "1 2 3");
            CHECK.due("wrapping(" + operation + ") of none",
                    Check.answer(() -> new WideWordStack().wrapping(operation)), "throws.IllegalArgumentException");
        }
        for (int operation = 0; operation <= 24; operation++) {
            int op = operation;
            int taken = Model.taken(operation);
            WideWordStack stack = new WideWordStack();
            for (int words = 0; words < taken; words++) {
                CHECK.due("wrapping(" + op + ") of " + words, Check.answer(() -> stack.wrapping(op)),
                        "throws.IllegalStateException");
                CHECK.due("depth() after that", stack.depth(), words);
                Words.push(stack, words + 1);
            }
            CHECK.due("top before wrapping(" + op + ")", Words.read(stack, 0), taken);
            CHECK.due("wrapping(" + op + ") of " + taken, Check.answer(() -> stack.wrapping(op)), 1);
        }
    }

    private static void restOfStackStays() {
        for (int operation = 0; operation <= 24; operation++) {
            WideWordStack full = Words.full();
            int taken = Model.taken(operation);
            CHECK.due("wrapping(" + operation + ") of 12", full.wrapping(operation), 13 - taken);
            full.drop();
            String rest = "2 3 4 5 6 7 8 9 10 11 12".substring(2 * (taken - 1));
            CHECK.due("stack below its result", Words.stackText(full), rest);
        }
    }
}
