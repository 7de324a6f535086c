import java.math.BigInteger;
import java.util.ArrayList;
import java.util.List;

/** Words as BigIntegers, and how they go in and out of a WideWordStack. */
final class Words {
    static final BigInteger END = BigInteger.ONE.shiftLeft(256);
    static final BigInteger HALF = BigInteger.ONE.shiftLeft(255);

    private Words() {
    }

    static BigInteger word(BigInteger number) {
        return number.mod(END);
    }

    static BigInteger word(long number) {
        return word(BigInteger.valueOf(number));
    }

    static BigInteger signed(BigInteger word) {
        return word.compareTo(HALF) < 0 ? word : word.subtract(END);
    }

    static int push(WideWordStack stack, BigInteger word) {
        return stack.push(word.shiftRight(192).longValue(), word.shiftRight(128).longValue(),
                word.shiftRight(64).longValue(), word.longValue());
    }

    static int push(WideWordStack stack, long number) {
        return push(stack, word(number));
    }

    static BigInteger read(WideWordStack stack, int k) {
        BigInteger word = BigInteger.ZERO;
        for (int i = 0; i < 4; i++) {
            BigInteger limb = BigInteger.valueOf(stack.limb(k, i));
            word = word.shiftLeft(64).add(limb.mod(BigInteger.ONE.shiftLeft(64)));
        }
        return word;
    }

    /** A stack with these words, the first one on top. */
    static WideWordStack stackOf(BigInteger... words) {
        WideWordStack stack = new WideWordStack();
        for (int i = words.length - 1; i >= 0; i--) {
            push(stack, words[i]);
        }
        return stack;
    }

    static WideWordStack stackOf(long... numbers) {
        BigInteger[] words = new BigInteger[numbers.length];
        for (int i = 0; i < numbers.length; i++) {
            words[i] = word(numbers[i]);
        }
        return stackOf(words);
    }

    /** A stack of 12 words, 1 on top and 12 at the bottom. */
    static WideWordStack full() {
        return stackOf(1, 2, 3, 4, 5, 6, 7, 8, 9, 10, 11, 12);
    }

    static String stackText(WideWordStack stack) {
        StringBuilder all = new StringBuilder();
        int depth = stack.depth();
        for (int k = 0; k < depth; k++) {
            all.append(k == 0 ? "" : " ").append(read(stack, k));
        }
        return all.toString();
    }

    static WideWordStack type(WideWordStack stack, String text) {
        for (int i = 0; i < text.length(); i++) {
            stack.key(text.charAt(i));
        }
        return stack;
    }

    static String text(WideWordStack stack) {
        StringBuilder all = new StringBuilder();
        for (int code = stack.letter(0); code >= 0; code = stack.letter(all.length())) {
            all.append((char) code);
        }
        return all.toString();
    }

    /** Words near every place where something may turn: powers of two, the two ranges, small ones. */
    static List<BigInteger> edges() {
        List<BigInteger> edges = new ArrayList<>();
        for (long small : new long[] {0, 1, 2, 3, 7, 10, 30, 31, 32, 33, 127, 128, 255, 256, 257}) {
            edges.add(word(small));
            edges.add(word(-small));
        }
        for (int bit : new int[] {31, 32, 63, 64, 127, 128, 191, 192, 224, 248, 255}) {
            BigInteger power = BigInteger.ONE.shiftLeft(bit);
            edges.add(power);
            edges.add(power.subtract(BigInteger.ONE));
            edges.add(power.add(BigInteger.ONE));
            edges.add(word(power.negate()));
        }
        edges.add(new BigInteger("8000000080000000800000008000000080000000800000008000000080000000", 16));
        edges.add(new BigInteger("00ff80017f01fe807e81ff0080ff7f0001feff807f80010203fcfdfefff0f1f2", 16));
        edges.add(new BigInteger("f0123456789abcdef0123456789abcdef0123456789abcdef0123456789abcde", 16));
        return edges;
    }
}
