import java.math.BigInteger;
import java.util.ArrayList;
import java.util.List;

/** What the document says, over BigInteger: every answer is a text, as Check.answer gives it. */
final class Model {
    static final int MOST_WORDS = 12;
    static final int MOST_LETTERS = 80;

    /** The top is the first. */
    final List<BigInteger> words = new ArrayList<>();
    String text = "";

    Model(BigInteger... topFirst) {
        words.addAll(List.of(topFirst));
    }

    /** The same text as Words.state. */
    String state() {
        return Words.state(Words.listed(words.toArray(new BigInteger[0])), text);
    }

    static int taken(int operation) {
        if (operation == 16 || operation == 20) {
            return 1;
        }
        return operation == 7 || operation == 8 ? 3 : 2;
    }

    static BigInteger wrapping(int operation, BigInteger x, BigInteger y, BigInteger z) {
        return Words.word(unwrapped(operation, x, y, z));
    }

    private static BigInteger unwrapped(int operation, BigInteger x, BigInteger y, BigInteger z) {
        BigInteger sx = Words.signed(x);
        BigInteger sy = Words.signed(y);
        BigInteger zero = BigInteger.ZERO;
        switch (operation) {
            case 0: return x.add(y);
            case 1: return x.multiply(y);
            case 2: return x.subtract(y);
            case 3: return y.signum() == 0 ? zero : x.divide(y);
            case 4: return y.signum() == 0 ? zero : sx.divide(sy);
            case 5: return y.signum() == 0 ? zero : x.mod(y);
            case 6: return y.signum() == 0 ? zero : sx.remainder(sy);
            case 7: return z.signum() == 0 ? zero : x.add(y).mod(z);
            case 8: return z.signum() == 0 ? zero : x.multiply(y).mod(z);
            case 9: return x.modPow(y, Words.END);
            case 10: return signExtend(x, y);
            case 11: return truth(x.compareTo(y) < 0);
            case 12: return truth(x.compareTo(y) > 0);
            case 13: return truth(sx.compareTo(sy) < 0);
            case 14: return truth(sx.compareTo(sy) > 0);
            case 15: return truth(x.equals(y));
            case 16: return truth(x.signum() == 0);
            case 17: return x.and(y);
            case 18: return x.or(y);
            case 19: return x.xor(y);
            case 20: return x.not();
            case 21: return below(x, 32) ? y.shiftRight(8 * (31 - x.intValue())).and(BigInteger.valueOf(255)) : zero;
            case 22: return below(x, 256) ? y.shiftLeft(x.intValue()) : zero;
            case 23: return below(x, 256) ? y.shiftRight(x.intValue()) : zero;
            default: return below(x, 256) ? sy.shiftRight(x.intValue()) : sy.shiftRight(256);
        }
    }

    private static BigInteger signExtend(BigInteger x, BigInteger y) {
        if (!below(x, 31)) {
            return y;
        }
        int sign = 8 * x.intValue() + 7;
        BigInteger extended = y;
        for (int bit = sign + 1; bit < 256; bit++) {
            extended = y.testBit(sign) ? extended.setBit(bit) : extended.clearBit(bit);
        }
        return extended;
    }

    private static boolean below(BigInteger x, int limit) {
        return x.compareTo(BigInteger.valueOf(limit)) < 0;
    }

    private static BigInteger truth(boolean holds) {
        return holds ? BigInteger.ONE : BigInteger.ZERO;
    }

    /** Null when y is 0 in 3 and 4. */
    static BigInteger exact(int operation, boolean signed, BigInteger wordX, BigInteger wordY) {
        BigInteger x = signed ? Words.signed(wordX) : wordX;
        BigInteger y = signed ? Words.signed(wordY) : wordY;
        switch (operation) {
            case 0: return x.add(y);
            case 1: return x.multiply(y);
            case 2: return x.subtract(y);
            case 3: return y.signum() == 0 ? null : x.divide(y);
            default: return y.signum() == 0 ? null : x.remainder(y);
        }
    }

    static BigInteger least(boolean signed) {
        return signed ? Words.HALF.negate() : BigInteger.ZERO;
    }

    static BigInteger greatest(boolean signed) {
        return (signed ? Words.HALF : Words.END).subtract(BigInteger.ONE);
    }

    static boolean inRange(BigInteger number, boolean signed) {
        return number.compareTo(least(signed)) >= 0 && number.compareTo(greatest(signed)) <= 0;
    }

    static String numeral(BigInteger word, boolean hex) {
        return hex ? "0x" + word.toString(16) : word.toString();
    }

    static String code(BigInteger word) {
        if (word.signum() == 0) {
            return "\u0080";
        }
        if (below(word, 128)) {
            return String.valueOf((char) word.intValue());
        }
        StringBuilder code = new StringBuilder();
        for (BigInteger rest = word; rest.signum() != 0; rest = rest.shiftRight(8)) {
            code.insert(0, (char) (rest.intValue() & 255));
        }
        return code.insert(0, (char) (128 + code.length())).toString();
    }

    private boolean has(int k) {
        return k >= 0 && k < words.size();
    }

    private boolean isFull() {
        return words.size() == MOST_WORDS;
    }

    private String put(BigInteger word) {
        words.add(0, word);
        return String.valueOf(words.size());
    }

    private String replace(int taken, BigInteger word) {
        words.subList(0, taken).clear();
        return put(word);
    }

    String push(BigInteger word) {
        return isFull() ? "throws.IllegalStateException" : put(word);
    }

    String copy(int k) {
        if (!has(k)) {
            return "throws.IndexOutOfBoundsException";
        }
        return push(words.get(k));
    }

    String swap(int k) {
        if (!has(k)) {
            return "throws.IndexOutOfBoundsException";
        }
        words.set(k, words.set(0, words.get(k)));
        return String.valueOf(k);
    }

    String drop() {
        if (words.isEmpty()) {
            return "throws.IllegalStateException";
        }
        words.remove(0);
        return String.valueOf(words.size());
    }

    String depth() {
        return String.valueOf(words.size());
    }

    String limb(int k, int i) {
        if (!has(k) || i < 0 || i > 3) {
            return "throws.IndexOutOfBoundsException";
        }
        return String.valueOf(words.get(k).shiftRight(64 * (3 - i)).longValue());
    }

    String width(int k) {
        return String.valueOf(has(k) ? words.get(k).bitLength() : -1);
    }

    String wrapping(int operation) {
        if (operation < 0 || operation > 24) {
            return "throws.IllegalArgumentException";
        }
        int taken = taken(operation);
        if (words.size() < taken) {
            return "throws.IllegalStateException";
        }
        BigInteger x = words.get(0);
        BigInteger y = taken > 1 ? words.get(1) : x;
        BigInteger z = taken > 2 ? words.get(2) : x;
        return replace(taken, wrapping(operation, x, y, z));
    }

    private String refusedExact(int operation) {
        if (operation < 0 || operation > 4) {
            return "throws.IllegalArgumentException";
        }
        if (words.size() < 2) {
            return "throws.IllegalStateException";
        }
        boolean divides = operation >= 3 && words.get(1).signum() == 0;
        return divides ? "throws.ArithmeticException" : null;
    }

    private String refusedChecked(int operation, boolean signed) {
        String refused = refusedExact(operation);
        if (refused == null && !inRange(exact(operation, signed, words.get(0), words.get(1)), signed)) {
            refused = "throws.ArithmeticException";
        }
        return refused;
    }

    String checked(int operation, boolean signed) {
        String refused = refusedChecked(operation, signed);
        if (refused != null) {
            return refused;
        }
        return replace(2, Words.word(exact(operation, signed, words.get(0), words.get(1))));
    }

    String nearest(int operation, boolean signed) {
        String refused = refusedExact(operation);
        if (refused != null) {
            return refused;
        }
        BigInteger result = exact(operation, signed, words.get(0), words.get(1));
        return replace(2, Words.word(result.max(least(signed)).min(greatest(signed))));
    }

    String fits(int operation, boolean signed) {
        return String.valueOf(refusedChecked(operation, signed) == null);
    }

    String key(char c) {
        if (c > 255 || text.length() == MOST_LETTERS) {
            return "false";
        }
        text += c;
        return "true";
    }

    String clear() {
        int had = text.length();
        text = "";
        return String.valueOf(had);
    }

    String letter(int i) {
        return String.valueOf(i >= 0 && i < text.length() ? text.charAt(i) : -1);
    }

    private String write(String written) {
        text = written;
        return String.valueOf(text.length());
    }

    String print(int k, boolean hex) {
        return has(k) ? write(numeral(words.get(k), hex)) : "throws.IndexOutOfBoundsException";
    }

    String encode(int k) {
        return has(k) ? write(code(words.get(k))) : "throws.IndexOutOfBoundsException";
    }

    private String take(BigInteger word) {
        if (word == null || word.signum() < 0 || word.compareTo(Words.END) >= 0) {
            return "throws.IllegalArgumentException";
        }
        if (isFull()) {
            return "throws.IllegalStateException";
        }
        text = "";
        return put(word);
    }

    String parse(boolean hex) {
        String form = hex ? "0x(0|[1-9a-f][0-9a-f]*)" : "0|[1-9][0-9]*";
        if (!text.matches(form)) {
            return "throws.IllegalArgumentException";
        }
        return take(hex ? new BigInteger(text.substring(2), 16) : new BigInteger(text));
    }

    /** Reads any bytes behind the first character and asks whether their code is this very text. */
    String decode() {
        BigInteger word = BigInteger.ZERO;
        for (int i = text.length() == 1 && text.charAt(0) < 128 ? 0 : 1; i < text.length(); i++) {
            word = word.shiftLeft(8).add(BigInteger.valueOf(text.charAt(i)));
        }
        return take(code(word).equals(text) ? word : null);
    }
}
