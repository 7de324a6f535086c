import java.math.BigInteger;
import java.util.ArrayList;
import java.util.List;

/** Words as BigIntegers, and how they go in and out of a WideWordStack. */
final class Words {
    static final BigInteger END = BigInteger.ONE.shiftLeft(256);
    static final BigInteger HALF = BigInteger.ONE.shiftLeft(255);
    /** The greatest word, and the words whose signed values are the least and the greatest. */
    static final BigInteger MOST = END.subtract(BigInteger.ONE);
    static final BigInteger SIGNED_LEAST = HALF;
    static final BigInteger SIGNED_MOST = HALF.subtract(BigInteger.ONE);

    private Words() {
    }

    /** The word that a whole number, an int, a long or a BigInteger, stands for. */
    static BigInteger word(Number number) {
        BigInteger whole = number instanceof BigInteger big ? big : BigInteger.valueOf(number.longValue());
        return whole.mod(END);
    }

    static BigInteger power(int bit) {
        return BigInteger.ONE.shiftLeft(bit);
    }

    static BigInteger signed(BigInteger word) {
        return word.compareTo(HALF) < 0 ? word : word.subtract(END);
    }

    static int push(WideWordStack stack, Number number) {
        BigInteger word = word(number);
        return stack.push(word.shiftRight(192).longValue(), word.shiftRight(128).longValue(),
                word.shiftRight(64).longValue(), word.longValue());
    }

    static BigInteger read(WideWordStack stack, int k) {
        BigInteger word = BigInteger.ZERO;
        for (int i = 0; i < 4; i++) {
            BigInteger limb = BigInteger.valueOf(stack.limb(k, i));
            word = word.shiftLeft(64).add(limb.mod(BigInteger.ONE.shiftLeft(64)));
        }
        return word;
    }

    /** A stack with these words, the first one on top. */
    static WideWordStack stackOf(Number... words) {
        WideWordStack stack = new WideWordStack();
        for (int i = words.length - 1; i >= 0; i--) {
            push(stack, words[i]);
        }
        return stack;
    }

    /** A stack of the words 1 .. n, 1 on top. */
    static WideWordStack upTo(int n) {
        return stackOf(from(1, n));
    }

    static Number[] from(int first, int last) {
        Number[] numbers = new Number[last - first + 1];
        for (int i = 0; i < numbers.length; i++) {
            numbers[i] = first + i;
        }
        return numbers;
    }

    static String stackText(WideWordStack stack) {
        Number[] words = new Number[stack.depth()];
        for (int k = 0; k < words.length; k++) {
            words[k] = read(stack, k);
        }
        return listed(words);
    }

    /** What stackText is for a stack of these words. */
    static String listed(Number... words) {
        StringBuilder all = new StringBuilder();
        for (Number word : words) {
            all.append(all.length() == 0 ? "" : " ").append(word(word));
        }
        return all.toString();
    }

    static String listedUpTo(int n) {
        return listed(from(1, n));
    }

    static WideWordStack type(WideWordStack stack, String text) {
        for (int i = 0; i < text.length(); i++) {
            stack.key(text.charAt(i));
        }
        return stack;
    }

    static String text(WideWordStack stack) {
        StringBuilder all = new StringBuilder();
        // One more than a text may have, so that a text too long is seen and none without an end is read.
        int code = stack.letter(0);
        for (int i = 1; i <= 81 && code >= 0; i++) {
            all.append((char) code);
            code = stack.letter(i);
        }
        return all.toString();
    }

    /** All that can be seen of an object; reading it takes at most 131 calls. */
    static String state(WideWordStack stack) {
        return state(stackText(stack), text(stack));
    }

    static String state(String words, String text) {
        return words + " | " + shown(text);
    }

    /** A text with the characters that do not print as their codes. */
    static String shown(String text) {
        StringBuilder all = new StringBuilder();
        for (char c : text.toCharArray()) {
            all.append(c > ' ' && c <= '~' && c != '<' ? String.valueOf(c) : "<" + (int) c + ">");
        }
        return all.toString();
    }

    /** Words near every place where something may turn: powers of two, the two ranges, small ones. */
    static List<BigInteger> edges() {
        List<BigInteger> edges = new ArrayList<>();
        for (long small : new long[] {0, 1, 2, 3, 7, 10, 30, 31, 32, 33, 127, 128, 255, 256, 257}) {
            edges.add(word(small));
            edges.add(word(-small));
        }
        for (int bit : new int[] {31, 32, 63, 64, 127, 128, 191, 192, 224, 248, 255}) {
            BigInteger power = BigInteger.ONE.shiftLeft(bit);
            edges.add(power);
            edges.add(power.subtract(BigInteger.ONE));
            edges.add(power.add(BigInteger.ONE));
            edges.add(word(power.negate()));
        }
        edges.add(new BigInteger("8000000080000000800000008000000080000000800000008000000080000000", 16));
        edges.add(new BigInteger("00ff80017f01fe807e81ff0080ff7f0001feff807f80010203fcfdfefff0f1f2", 16));
        edges.add(new BigInteger("f0123456789abcdef0123456789abcdef0123456789abcdef0123456789abcde", 16));
        return edges;
    }
}
