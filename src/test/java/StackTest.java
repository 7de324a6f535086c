import java.math.BigInteger;

/** Promises 1 to 8: the stack itself. */
public final class StackTest {
    private static final Check CHECK = new Check("StackTest");

    public static void main(String[] args) {
        newObject();
        push();
        copy();
        swap();
        drop();
        depth();
        limb();
        width();
        CHECK.finish();
    }

    private static void newObject() {
        WideWordStack stack = new WideWordStack();
        CHECK.due("depth() of a new object", stack.depth(), 0);
        CHECK.due("width(0) of a new object", stack.width(0), -1);
        CHECK.due("letter(0) of a new object", stack.letter(0), -1);
        CHECK.due("clear() of a new object", stack.clear(), 0);
        WideWordStack other = new WideWordStack();
        other.push(1, 2, 3, 4);
        other.key('a');
        CHECK.due("depth() beside another object", stack.depth(), 0);
        CHECK.due("letter(0) beside another object", stack.letter(0), -1);
    }

    private static void push() {
        WideWordStack stack = new WideWordStack();
        for (int n = 1; n <= 12; n++) {
            CHECK.due("push number " + n, stack.push(-n, n, Long.MIN_VALUE + n, Long.MAX_VALUE - n), n);
        }
        CHECK.due("push number 13", Check.answer(() -> stack.push(0, 0, 0, 0)), "throws.IllegalStateException");
        CHECK.due("depth() after 13 pushes", stack.depth(), 12);
        for (int k = 0; k < 12; k++) {
            int n = 12 - k;
            CHECK.due("limb(" + k + ", 0)", stack.limb(k, 0), (long) -n);
            CHECK.due("limb(" + k + ", 1)", stack.limb(k, 1), (long) n);
            CHECK.due("limb(" + k + ", 2)", stack.limb(k, 2), Long.MIN_VALUE + n);
            CHECK.due("limb(" + k + ", 3)", stack.limb(k, 3), Long.MAX_VALUE - n);
        }
    }

    private static void copy() {
        WideWordStack stack = Words.stackOf(5, -6, 7);
        CHECK.due("copy(2)", stack.copy(2), 4);
        CHECK.due("stack after copy(2)", Words.stackText(stack), "7 5 " + Words.word(-6) + " 7");
        CHECK.due("copy(0)", stack.copy(0), 5);
        stack.wrapping(20);
        CHECK.due("word 1 after its copy changed", Words.read(stack, 1), 7);
        for (int k : new int[] {-1, 5, 12, Integer.MIN_VALUE, Integer.MAX_VALUE}) {
            CHECK.due("copy(" + k + ") of 5", Check.answer(() -> stack.copy(k)), "throws.IndexOutOfBoundsException");
        }
        CHECK.due("copy(0) of none", Check.answer(() -> new WideWordStack().copy(0)),
                "throws.IndexOutOfBoundsException");
        WideWordStack full = Words.full();
        CHECK.due("copy(11) of 12", Check.answer(() -> full.copy(11)), "throws.IllegalStateException");
        CHECK.due("copy(12) of 12", Check.answer(() -> full.copy(12)), "throws.IndexOutOfBoundsException");
        CHECK.due("copy(-1) of 12", Check.answer(() -> full.copy(-1)), "throws.IndexOutOfBoundsException");
        CHECK.due("stack after refused copies", Words.stackText(full), "1 2 3 4 5 6 7 8 9 10 11 12");
    }

    private static void swap() {
        WideWordStack full = Words.full();
        CHECK.due("swap(11)", full.swap(11), 11);
        CHECK.due("stack after swap(11)", Words.stackText(full), "12 2 3 4 5 6 7 8 9 10 11 1");
        CHECK.due("swap(0)", full.swap(0), 0);
        CHECK.due("swap(3)", full.swap(3), 3);
        CHECK.due("stack after swap(3)", Words.stackText(full), "4 2 3 12 5 6 7 8 9 10 11 1");
        for (int k : new int[] {-1, 12, Integer.MIN_VALUE, Integer.MAX_VALUE}) {
            CHECK.due("swap(" + k + ")", Check.answer(() -> full.swap(k)), "throws.IndexOutOfBoundsException");
        }
        CHECK.due("stack after refused swaps", Words.stackText(full), "4 2 3 12 5 6 7 8 9 10 11 1");
        CHECK.due("swap(0) of none", Check.answer(() -> new WideWordStack().swap(0)),
                "throws.IndexOutOfBoundsException");
        BigInteger wide = Words.edges().get(Words.edges().size() - 1);
        WideWordStack two = Words.stackOf(wide, wide.not().mod(Words.END));
        two.swap(1);
        CHECK.due("word 1 after swap(1)", Words.read(two, 1), wide);
        CHECK.due("word 0 after swap(1)", Words.read(two, 0), wide.not().mod(Words.END));
    }

    private static void drop() {
        WideWordStack stack = Words.stackOf(1, 2, 3);
        CHECK.due("drop() of 3", stack.drop(), 2);
        CHECK.due("stack after drop()", Words.stackText(stack), "2 3");
        CHECK.due("drop() of 2", stack.drop(), 1);
        CHECK.due("drop() of 1", stack.drop(), 0);
        CHECK.due("drop() of none", Check.answer(stack::drop), "throws.IllegalStateException");
        CHECK.due("depth() after a refused drop", stack.depth(), 0);
        WideWordStack full = Words.full();
        full.drop();
        CHECK.due("push after drop() of 12", Words.push(full, 77), 12);
        CHECK.due("top after drop and push", Words.read(full, 0), 77);
    }

    private static void depth() {
        WideWordStack stack = new WideWordStack();
        for (int n = 1; n <= 12; n++) {
            Words.push(stack, n);
            CHECK.due("depth() of " + n, stack.depth(), n);
        }
        stack.wrapping(8);
        CHECK.due("depth() after MULMOD", stack.depth(), 10);
    }

    private static void limb() {
        WideWordStack stack = new WideWordStack();
        stack.push(1, -2, Long.MIN_VALUE, Long.MAX_VALUE);
        stack.push(0x0123456789abcdefL, 0xfedcba9876543210L, 0x80000000L, 0x7fffffff80000000L);
        long[] lower = {1, -2, Long.MIN_VALUE, Long.MAX_VALUE};
        long[] upper = {0x0123456789abcdefL, 0xfedcba9876543210L, 0x80000000L, 0x7fffffff80000000L};
        for (int i = 0; i < 4; i++) {
            CHECK.due("limb(1, " + i + ")", stack.limb(1, i), lower[i]);
            CHECK.due("limb(0, " + i + ")", stack.limb(0, i), upper[i]);
        }
        int[][] none = {{2, 0}, {-1, 0}, {0, 4}, {0, -1}, {1, 4}, {2, 4}, {Integer.MAX_VALUE, 0},
            {Integer.MIN_VALUE, 0}, {0, Integer.MAX_VALUE}, {0, Integer.MIN_VALUE}};
        for (int[] at : none) {
            CHECK.due("limb(" + at[0] + ", " + at[1] + ")", Check.answer(() -> stack.limb(at[0], at[1])),
                    "throws.IndexOutOfBoundsException");
        }
    }

    private static void width() {
        for (int bit = 0; bit < 256; bit++) {
            BigInteger power = BigInteger.ONE.shiftLeft(bit);
            WideWordStack stack = Words.stackOf(power, power.subtract(BigInteger.ONE));
            CHECK.due("width of 2^" + bit, stack.width(0), bit + 1);
            CHECK.due("width of 2^" + bit + " - 1", stack.width(1), bit);
        }
        WideWordStack stack = Words.stackOf(-1, 0);
        CHECK.due("width of -1", stack.width(0), 256);
        CHECK.due("width of 0", stack.width(1), 0);
        for (int k : new int[] {2, -1, Integer.MIN_VALUE, Integer.MAX_VALUE}) {
            CHECK.due("width(" + k + ") of 2", stack.width(k), -1);
        }
    }
}
