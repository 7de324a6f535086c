import java.util.Arrays;

/** A stack of words of 256 bits and a short text, as the document of WideWordStack says. */
public final class WideWordStack {
    private static final int MOST_WORDS = 12;
    private static final int LIMBS = 4;

    // The top is the last row in use, so that pushing and dropping move no other word.
    private final long[][] rows;
    private int count;

    private final Text text;
    private final Exact exact;
    private final Wrapping wraps;

    // Results are worked out here and put on the stack only when nothing can refuse them any more.
    private final long[] result;

    public WideWordStack() {
        rows = new long[MOST_WORDS][Row.WORD];
        count = 0;
        text = new Text();
        exact = new Exact();
        wraps = new Wrapping(exact);
        result = new long[Row.WORD];
    }

    public int push(long a, long b, long c, long d) throws IllegalStateException {
        refuseWhenFull();
        long[] top = rows[count];
        Row.setLimb(top, 0, a);
        Row.setLimb(top, 1, b);
        Row.setLimb(top, 2, c);
        Row.setLimb(top, 3, d);
        count++;
        return count;
    }

    public int copy(int k) throws IndexOutOfBoundsException, IllegalStateException {
        refuseNoWord(k);
        refuseWhenFull();
        return putOnTop(word(k));
    }

    public int swap(int k) throws IndexOutOfBoundsException {
        refuseNoWord(k);
        Row.exchange(word(0), word(k));
        return k;
    }

    public int drop() throws IllegalStateException {
        refuseFewerThan(1);
        count--;
        return count;
    }

    public int depth() {
        return count;
    }

    public long limb(int k, int i) throws IndexOutOfBoundsException {
        refuseNoWord(k);
        if (i < 0 || i >= LIMBS) {
            throw new IndexOutOfBoundsException("there is no such limb");
        }
        return Row.limbOf(word(k), i);
    }

    public int width(int k) {
        return hasWord(k) ? Row.bitLength(word(k)) : -1;
    }

    public int wrapping(int operation) throws IllegalArgumentException, IllegalStateException {
        if (!Wrapping.isOperation(operation)) {
            throw new IllegalArgumentException("there is no such operation");
        }
        int taken = Wrapping.wordsTaken(operation);
        refuseFewerThan(taken);
        if (taken == 1) {
            wraps.workOnOne(operation, word(0), result);
        } else if (taken == 2) {
            wraps.workOnTwo(operation, word(0), word(1), result);
        } else {
            wraps.workOnThree(operation, word(0), word(1), word(2), result);
        }
        return replaceByResult(taken);
    }

    public int checked(int operation, boolean signed)
            throws IllegalArgumentException, IllegalStateException, ArithmeticException {
        refuseUnlessExact(operation);
        refuseFewerThan(2);
        if (!exact.work(operation, signed, word(0), word(1)) || !exact.isInRange(signed)) {
            throw new ArithmeticException("there is no such result in the range");
        }
        exact.putWrapped(result);
        return replaceByResult(2);
    }

    public int nearest(int operation, boolean signed)
            throws IllegalArgumentException, IllegalStateException, ArithmeticException {
        refuseUnlessExact(operation);
        refuseFewerThan(2);
        if (!exact.work(operation, signed, word(0), word(1))) {
            throw new ArithmeticException("there is no quotient by 0");
        }
        exact.putNearest(signed, result);
        return replaceByResult(2);
    }

    public boolean fits(int operation, boolean signed) {
        return Exact.isOperation(operation)
                && count >= 2
                && exact.work(operation, signed, word(0), word(1))
                && exact.isInRange(signed);
    }

    public boolean key(char c) {
        return text.append(c);
    }

    public int clear() {
        int had = text.size();
        text.makeEmpty();
        return had;
    }

    public int letter(int i) {
        return text.codeAt(i);
    }

    public int print(int k, boolean hex) throws IndexOutOfBoundsException {
        refuseNoWord(k);
        text.makeEmpty();
        if (hex) {
            Numeral.writeHex(word(k), text);
        } else {
            Row.assign(result, word(k));
            Numeral.writeDecimal(result, text);
        }
        return text.size();
    }

    public int parse(boolean hex) throws IllegalArgumentException, IllegalStateException {
        boolean read = hex ? Numeral.readHex(text, result) : Numeral.readDecimal(text, result);
        if (!read) {
            throw new IllegalArgumentException("the text is not the numeral of a word");
        }
        return moveFromText();
    }

    public int encode(int k) throws IndexOutOfBoundsException {
        refuseNoWord(k);
        text.makeEmpty();
        Code.write(word(k), text);
        return text.size();
    }

    public int decode() throws IllegalArgumentException, IllegalStateException {
        if (!Code.read(text, result)) {
            throw new IllegalArgumentException("the text is not the code of a word");
        }
        return moveFromText();
    }

    private boolean hasWord(int k) {
        return k >= 0 && k < count;
    }

    private long[] word(int k) {
        return rows[count - 1 - k];
    }

    private void refuseNoWord(int k) {
        if (!hasWord(k)) {
            throw new IndexOutOfBoundsException("there is no such word");
        }
    }

    private void refuseWhenFull() {
        if (count >= MOST_WORDS) {
            throw new IllegalStateException("the stack is full");
        }
    }

    private void refuseFewerThan(int words) {
        if (count < words) {
            throw new IllegalStateException("there are too few words");
        }
    }

    private void refuseUnlessExact(int operation) {
        if (!Exact.isOperation(operation)) {
            throw new IllegalArgumentException("there is no such exact operation");
        }
    }

    private int putOnTop(long[] word) {
        Row.assign(rows[count], word);
        count++;
        return count;
    }

    private int replaceByResult(int taken) {
        count -= taken;
        return putOnTop(result);
    }

    private int moveFromText() {
        refuseWhenFull();
        text.makeEmpty();
        return putOnTop(result);
    }

    /**
     * Whole numbers as rows of digits of 32 bits, the lowest first. A digit is a long of 0 .. 2^32 - 1,
     * so that the product of two digits and two carries still has room in a long without a sign.
     */
    private static final class Row {
        static final int WORD = 8;
        // Room for the product of two words.
        static final int WIDE = 16;
        static final int BITS = 32;
        static final long MASK = 0xFFFFFFFFL;
        static final long SIGN = 0x80000000L;
        static final int BYTES = 32;
        private static final int BYTES_OF_DIGIT = 4;

        static void assign(long[] row, long[] word) {
            System.arraycopy(word, 0, row, 0, WORD);
        }

        static void setSmall(long[] row, long digit) {
            Arrays.fill(row, 0L);
            row[0] = digit;
        }

        static void setLimb(long[] word, int i, long limb) {
            int low = WORD - 2 - 2 * i;
            word[low] = limb & MASK;
            word[low + 1] = limb >>> BITS;
        }

        static long limbOf(long[] word, int i) {
            int low = WORD - 2 - 2 * i;
            return word[low + 1] << BITS | word[low];
        }

        static void exchange(long[] one, long[] other) {
            for (int i = 0; i < WORD; i++) {
                long kept = one[i];
                one[i] = other[i];
                other[i] = kept;
            }
        }

        static boolean isZero(long[] row) {
            for (int i = 0; i < row.length; i++) {
                if (row[i] != 0) {
                    return false;
                }
            }
            return true;
        }

        static boolean isNegative(long[] word) {
            return word[WORD - 1] >= SIGN;
        }

        static int bitLength(long[] row) {
            for (int i = row.length - 1; i >= 0; i--) {
                if (row[i] != 0) {
                    return BITS * i + 64 - Long.numberOfLeadingZeros(row[i]);
                }
            }
            return 0;
        }

        static long bitAt(long[] row, int bit) {
            return row[bit / BITS] >>> bit % BITS & 1L;
        }

        /** The number in the row if it is below the limit, otherwise the limit. */
        static int atMost(long[] row, int limit) {
            for (int i = 1; i < row.length; i++) {
                if (row[i] != 0) {
                    return limit;
                }
            }
            return row[0] < limit ? (int) row[0] : limit;
        }

        /** A byte of a word; place 0 is the lowest. */
        static int byteAt(long[] word, int place) {
            return (int) (word[place / BYTES_OF_DIGIT] >>> 8 * (place % BYTES_OF_DIGIT) & 255L);
        }

        static void setByte(long[] word, int place, long value) {
            int digit = place / BYTES_OF_DIGIT;
            int shift = 8 * (place % BYTES_OF_DIGIT);
            word[digit] = word[digit] & ~(255L << shift) | value << shift;
        }

        /** Below 0, 0 or above 0, for rows of the same length. */
        static int compareRows(long[] a, long[] b) {
            for (int i = a.length - 1; i >= 0; i--) {
                if (a[i] != b[i]) {
                    return a[i] < b[i] ? -1 : 1;
                }
            }
            return 0;
        }

        static int compareSigned(long[] x, long[] y) {
            if (isNegative(x) != isNegative(y)) {
                return isNegative(x) ? -1 : 1;
            }
            return compareRows(x, y);
        }

        static void add(long[] a, long[] b, long[] sum) {
            long carry = 0;
            for (int i = 0; i < sum.length; i++) {
                long digit = a[i] + b[i] + carry;
                sum[i] = digit & MASK;
                carry = digit >>> BITS;
            }
        }

        static void subtract(long[] a, long[] b, long[] difference) {
            long borrow = 0;
            for (int i = 0; i < difference.length; i++) {
                long digit = a[i] - b[i] - borrow;
                difference[i] = digit & MASK;
                borrow = digit < 0 ? 1 : 0;
            }
        }

        /** Turns a word into the one that stands for the number of the other sign. */
        static void negateWord(long[] row) {
            long carry = 1;
            for (int i = 0; i < WORD; i++) {
                long digit = (row[i] ^ MASK) + carry;
                row[i] = digit & MASK;
                carry = digit >>> BITS;
            }
        }

        /** Of rows of the same length; what has no room in the product, a row of its own, is cut off. */
        static void multiply(long[] a, long[] b, long[] product) {
            Arrays.fill(product, 0L);
            for (int i = 0; i < product.length; i++) {
                long carry = 0;
                for (int j = 0; i + j < product.length; j++) {
                    long digit = a[i] * b[j] + product[i + j] + carry;
                    product[i + j] = digit & MASK;
                    carry = digit >>> BITS;
                }
            }
        }

        /**
         * Long division bit by bit, by a divisor of at most a word, so that twice the remainder
         * always has room. All four rows are WIDE and rows of their own. False, with 0 and 0, when
         * the divisor is 0.
         */
        static boolean divide(long[] dividend, long[] divisor, long[] quotient, long[] remainder) {
            Arrays.fill(quotient, 0L);
            Arrays.fill(remainder, 0L);
            if (isZero(divisor)) {
                return false;
            }
            for (int bit = bitLength(dividend) - 1; bit >= 0; bit--) {
                multiplyAdd(remainder, 2L, bitAt(dividend, bit));
                if (compareRows(remainder, divisor) >= 0) {
                    subtract(remainder, divisor, remainder);
                    quotient[bit / BITS] |= 1L << bit % BITS;
                }
            }
            return true;
        }

        /** The row becomes itself times the factor and the addend more; answers what had no room. */
        static long multiplyAdd(long[] row, long factor, long addend) {
            long carry = addend;
            for (int i = 0; i < row.length; i++) {
                long digit = row[i] * factor + carry;
                row[i] = digit & MASK;
                carry = digit >>> BITS;
            }
            return carry;
        }

        /** The row becomes its tenth without remainder; answers the remainder. */
        static int divideByTen(long[] row) {
            long remainder = 0;
            for (int i = row.length - 1; i >= 0; i--) {
                long part = remainder << BITS | row[i];
                row[i] = part / 10;
                remainder = part % 10;
            }
            return (int) remainder;
        }

        /** Moves a word down by a number of bits -256 .. 256; zeros come from below, fill from above. */
        static void shiftDown(long[] word, int bits, long fill, long[] result) {
            for (int i = 0; i < WORD; i++) {
                int from = BITS * i + bits;
                int digit = Math.floorDiv(from, BITS);
                long low = digitOr(word, digit, fill);
                long high = digitOr(word, digit + 1, fill);
                result[i] = (high << BITS | low) >>> Math.floorMod(from, BITS) & MASK;
            }
        }

        private static long digitOr(long[] word, int i, long fill) {
            if (i < 0) {
                return 0;
            }
            return i < WORD ? word[i] : fill;
        }
    }

    /** A whole number with a sign, wide enough for every sum and product of two words. */
    private static final class Whole {
        private static final long[] SIGNED_END = {0, 0, 0, 0, 0, 0, 0, 0x80000000L, 0, 0, 0, 0, 0, 0, 0, 0};
        private static final long[] UNSIGNED_END = {0, 0, 0, 0, 0, 0, 0, 0, 1, 0, 0, 0, 0, 0, 0, 0};

        private final long[] size;
        // Never for 0, so that 0 lies in both ranges.
        private boolean negative;

        Whole() {
            size = new long[Row.WIDE];
            negative = false;
        }

        void setWord(long[] word, boolean signed) {
            Arrays.fill(size, 0L);
            Row.assign(size, word);
            negative = signed && Row.isNegative(word);
            if (negative) {
                Row.negateWord(size);
            }
        }

        void setWhole(Whole other) {
            System.arraycopy(other.size, 0, size, 0, Row.WIDE);
            negative = other.negative;
        }

        void setSum(Whole a, Whole b) {
            setSumOfSigned(a, b, b.negative);
        }

        void setDifference(Whole a, Whole b) {
            setSumOfSigned(a, b, !b.negative);
        }

        private void setSumOfSigned(Whole a, Whole b, boolean negativeB) {
            if (a.negative == negativeB) {
                Row.add(a.size, b.size, size);
                setSign(a.negative);
            } else if (Row.compareRows(a.size, b.size) >= 0) {
                Row.subtract(a.size, b.size, size);
                setSign(a.negative);
            } else {
                Row.subtract(b.size, a.size, size);
                setSign(negativeB);
            }
        }

        void setProduct(Whole a, Whole b) {
            Row.multiply(a.size, b.size, size);
            setSign(a.negative != b.negative);
        }

        /** False, and the quotient 0, when b is 0. */
        boolean setQuotient(Whole a, Whole b, long[] remainder) {
            boolean divided = Row.divide(a.size, b.size, size, remainder);
            setSign(a.negative != b.negative);
            return divided;
        }

        /** False, and the remainder 0, when b is 0. */
        boolean setRemainder(Whole a, Whole b, long[] quotient) {
            boolean divided = Row.divide(a.size, b.size, quotient, size);
            setSign(a.negative);
            return divided;
        }

        private void setSign(boolean below) {
            negative = below && !Row.isZero(size);
        }

        boolean isInRange(boolean signed) {
            if (!signed) {
                return !negative && Row.compareRows(size, UNSIGNED_END) < 0;
            }
            int order = Row.compareRows(size, SIGNED_END);
            return order < 0 || order == 0 && negative;
        }

        void putWrapped(long[] word) {
            Row.assign(word, size);
            if (negative) {
                Row.negateWord(word);
            }
        }

        /** The bound of the range on the side where this number lies. */
        void putBound(boolean signed, long[] word) {
            Arrays.fill(word, negative ? 0L : Row.MASK);
            if (signed) {
                word[Row.WORD - 1] ^= Row.SIGN;
            }
        }
    }

    /** The exact operations; the last one's result is kept until the next. */
    private static final class Exact {
        static final int SUM = 0;
        static final int PRODUCT = 1;
        static final int DIFFERENCE = 2;
        static final int QUOTIENT = 3;
        static final int REMAINDER = 4;

        private final Whole x;
        private final Whole y;
        private final Whole result;
        private final long[] spare;

        Exact() {
            x = new Whole();
            y = new Whole();
            result = new Whole();
            spare = new long[Row.WIDE];
        }

        static boolean isOperation(int operation) {
            return operation >= SUM && operation <= REMAINDER;
        }

        /** False, and the result 0, when it would have to divide by 0. */
        boolean work(int operation, boolean signed, long[] wordX, long[] wordY) {
            x.setWord(wordX, signed);
            y.setWord(wordY, signed);
            switch (operation) {
                case SUM:
                    result.setSum(x, y);
                    return true;
                case PRODUCT:
                    result.setProduct(x, y);
                    return true;
                case DIFFERENCE:
                    result.setDifference(x, y);
                    return true;
                case QUOTIENT:
                    return result.setQuotient(x, y, spare);
                default:
                    return result.setRemainder(x, y, spare);
            }
        }

        /** The result becomes its own remainder by z, or 0 when z is 0. */
        void reduce(long[] wordZ) {
            x.setWhole(result);
            y.setWord(wordZ, false);
            result.setRemainder(x, y, spare);
        }

        boolean isInRange(boolean signed) {
            return result.isInRange(signed);
        }

        void putWrapped(long[] word) {
            result.putWrapped(word);
        }

        void putNearest(boolean signed, long[] word) {
            if (result.isInRange(signed)) {
                result.putWrapped(word);
            } else {
                result.putBound(signed, word);
            }
        }
    }

    /** The operations 0 .. 24. The result is never one of the rows that they read. */
    private static final class Wrapping {
        private static final int ADD = 0;
        private static final int MUL = 1;
        private static final int SUB = 2;
        private static final int DIV = 3;
        private static final int SDIV = 4;
        private static final int MOD = 5;
        private static final int SMOD = 6;
        private static final int ADDMOD = 7;
        private static final int MULMOD = 8;
        private static final int EXP = 9;
        private static final int SIGNEXTEND = 10;
        private static final int LT = 11;
        private static final int GT = 12;
        private static final int SLT = 13;
        private static final int SGT = 14;
        private static final int EQ = 15;
        private static final int ISZERO = 16;
        private static final int AND = 17;
        private static final int OR = 18;
        private static final int XOR = 19;
        private static final int NOT = 20;
        private static final int BYTE = 21;
        private static final int SHL = 22;
        private static final int SHR = 23;
        private static final int SAR = 24;

        private static final int WORD_BITS = 256;

        private final Exact exact;
        private final long[] product;

        Wrapping(Exact shared) {
            exact = shared;
            product = new long[Row.WORD];
        }

        static boolean isOperation(int operation) {
            return operation >= ADD && operation <= SAR;
        }

        static int wordsTaken(int operation) {
            switch (operation) {
                case ISZERO:
                case NOT:
                    return 1;
                case ADDMOD:
                case MULMOD:
                    return 3;
                default:
                    return 2;
            }
        }

        void workOnOne(int operation, long[] x, long[] result) {
            if (operation == ISZERO) {
                putTruth(Row.isZero(x), result);
            } else {
                for (int i = 0; i < Row.WORD; i++) {
                    result[i] = x[i] ^ Row.MASK;
                }
            }
        }

        void workOnThree(int operation, long[] x, long[] y, long[] z, long[] result) {
            exact.work(operation == ADDMOD ? Exact.SUM : Exact.PRODUCT, false, x, y);
            exact.reduce(z);
            exact.putWrapped(result);
        }

        void workOnTwo(int operation, long[] x, long[] y, long[] result) {
            if (operation <= SMOD) {
                exact.work(exactOf(operation), operation == SDIV || operation == SMOD, x, y);
                exact.putWrapped(result);
            } else if (operation >= LT && operation <= EQ) {
                putTruth(holds(operation, x, y), result);
            } else if (operation >= AND && operation <= XOR) {
                combine(operation, x, y, result);
            } else if (operation >= SHL) {
                shift(operation, x, y, result);
            } else if (operation == EXP) {
                raise(x, y, result);
            } else if (operation == SIGNEXTEND) {
                extendSign(x, y, result);
            } else {
                pickByte(x, y, result);
            }
        }

        private static int exactOf(int operation) {
            switch (operation) {
                case ADD:
                    return Exact.SUM;
                case MUL:
                    return Exact.PRODUCT;
                case SUB:
                    return Exact.DIFFERENCE;
                case DIV:
                case SDIV:
                    return Exact.QUOTIENT;
                default:
                    return Exact.REMAINDER;
            }
        }

        private void raise(long[] x, long[] y, long[] result) {
            Row.setSmall(result, 1L);
            for (int bit = Row.bitLength(y) - 1; bit >= 0; bit--) {
                Row.multiply(result, result, product);
                if (Row.bitAt(y, bit) == 0) {
                    Row.assign(result, product);
                } else {
                    Row.multiply(product, x, result);
                }
            }
        }

        private static void extendSign(long[] x, long[] y, long[] result) {
            Row.assign(result, y);
            int last = Row.atMost(x, Row.BYTES - 1);
            long fill = Row.byteAt(y, last) >= 128 ? 255L : 0L;
            for (int place = last + 1; place < Row.BYTES; place++) {
                Row.setByte(result, place, fill);
            }
        }

        private static boolean holds(int operation, long[] x, long[] y) {
            switch (operation) {
                case LT:
                    return Row.compareRows(x, y) < 0;
                case GT:
                    return Row.compareRows(x, y) > 0;
                case SLT:
                    return Row.compareSigned(x, y) < 0;
                case SGT:
                    return Row.compareSigned(x, y) > 0;
                default:
                    return Row.compareRows(x, y) == 0;
            }
        }

        private static void putTruth(boolean truth, long[] result) {
            Row.setSmall(result, truth ? 1L : 0L);
        }

        private static void combine(int operation, long[] x, long[] y, long[] result) {
            for (int i = 0; i < Row.WORD; i++) {
                if (operation == AND) {
                    result[i] = x[i] & y[i];
                } else if (operation == OR) {
                    result[i] = x[i] | y[i];
                } else {
                    result[i] = x[i] ^ y[i];
                }
            }
        }

        private static void pickByte(long[] x, long[] y, long[] result) {
            int i = Row.atMost(x, Row.BYTES);
            Row.setSmall(result, i < Row.BYTES ? Row.byteAt(y, Row.BYTES - 1 - i) : 0L);
        }

        private static void shift(int operation, long[] x, long[] y, long[] result) {
            // Every bit has left the word by then, and no larger shift does more.
            int bits = Row.atMost(x, WORD_BITS);
            if (operation == SHL) {
                Row.shiftDown(y, -bits, 0L, result);
            } else {
                boolean ones = operation == SAR && Row.isNegative(y);
                Row.shiftDown(y, bits, ones ? Row.MASK : 0L, result);
            }
        }
    }

    /** At most 80 characters with codes 0 .. 255. */
    private static final class Text {
        private static final int MOST = 80;
        private static final int LAST_CODE = 255;

        private final char[] letters;
        private int length;

        Text() {
            letters = new char[MOST];
            length = 0;
        }

        int size() {
            return length;
        }

        void makeEmpty() {
            length = 0;
        }

        boolean append(char c) {
            if (c > LAST_CODE || length >= MOST) {
                return false;
            }
            letters[length] = c;
            length++;
            return true;
        }

        int codeAt(int i) {
            if (i < 0 || i >= length) {
                return -1;
            }
            return letters[i];
        }

        void turnRound() {
            for (int i = 0; i < length / 2; i++) {
                char kept = letters[i];
                letters[i] = letters[length - 1 - i];
                letters[length - 1 - i] = kept;
            }
        }
    }

    /** Words as decimal and hexadecimal numerals. */
    private static final class Numeral {
        private static final int MOST_DECIMALS = 78;
        private static final int HEX_START = 2;

        /** Uses the word up: it is 0 afterwards. */
        static void writeDecimal(long[] word, Text text) {
            text.append((char) ('0' + Row.divideByTen(word)));
            for (int i = 1; i < MOST_DECIMALS && !Row.isZero(word); i++) {
                text.append((char) ('0' + Row.divideByTen(word)));
            }
            text.turnRound();
        }

        static void writeHex(long[] word, Text text) {
            text.append('0');
            text.append('x');
            int digits = Math.max(1, (Row.bitLength(word) + 3) / 4);
            for (int place = digits - 1; place >= 0; place--) {
                text.append(hexDigit(Row.byteAt(word, place / 2) >> 4 * (place % 2) & 15));
            }
        }

        private static char hexDigit(int value) {
            return (char) (value < 10 ? '0' + value : 'a' + value - 10);
        }

        static boolean readDecimal(Text text, long[] word) {
            return readDigits(text, 0, 10, word);
        }

        static boolean readHex(Text text, long[] word) {
            return text.codeAt(0) == '0' && text.codeAt(1) == 'x' && readDigits(text, HEX_START, 16, word);
        }

        private static boolean readDigits(Text text, int start, int base, long[] word) {
            int digits = text.size() - start;
            if (digits < 1 || digits > 1 && text.codeAt(start) == '0') {
                return false;
            }
            Arrays.fill(word, 0L);
            for (int i = start; i < text.size(); i++) {
                int value = valueOf(text.codeAt(i), base);
                if (value < 0 || Row.multiplyAdd(word, base, value) != 0) {
                    return false;
                }
            }
            return true;
        }

        private static int valueOf(int code, int base) {
            if (code >= '0' && code <= '9') {
                return code - '0';
            }
            return base == 16 && code >= 'a' && code <= 'f' ? code - 'a' + 10 : -1;
        }
    }

    /** Words as the shortest bytes. */
    private static final class Code {
        // From here on a first character tells how many bytes follow it.
        private static final int MARK = 128;

        static void write(long[] word, Text text) {
            int small = Row.atMost(word, MARK);
            if (small > 0 && small < MARK) {
                text.append((char) small);
                return;
            }
            int bytes = (Row.bitLength(word) + 7) / 8;
            text.append((char) (MARK + bytes));
            for (int place = bytes - 1; place >= 0; place--) {
                text.append((char) Row.byteAt(word, place));
            }
        }

        static boolean read(Text text, long[] word) {
            int first = text.codeAt(0);
            if (first > 0 && first < MARK) {
                Row.setSmall(word, first);
                return text.size() == 1;
            }
            int bytes = first - MARK;
            if (bytes < 0 || bytes > Row.BYTES || text.size() != bytes + 1) {
                return false;
            }
            Arrays.fill(word, 0L);
            for (int i = 1; i <= bytes; i++) {
                Row.setByte(word, bytes - i, text.codeAt(i));
            }
            return bytes == 0 || isShortest(text, bytes);
        }

        private static boolean isShortest(Text text, int bytes) {
            int highest = text.codeAt(1);
            return bytes == 1 ? highest >= MARK : highest > 0;
        }
    }
}
