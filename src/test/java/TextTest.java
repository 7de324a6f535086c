import java.math.BigInteger;

/** Promises 13 to 19: the text, numerals and codes. */
public final class TextTest {
    private static final Check CHECK = new Check("TextTest");
    private static final String ARGUMENT = "throws.IllegalArgumentException";
    private static final String STATE = "throws.IllegalStateException";
    private static final String INDEX = "throws.IndexOutOfBoundsException";
    private static final BigInteger MOST = Words.word(-1);
    private static final String MOST_DECIMAL =
            "115792089237316195423570985008687907853269984665640564039457584007913129639935";

    public static void main(String[] args) {
        key();
        clear();
        letter();
        print();
        parse();
        parseRefuses();
        encode();
        decode();
        decodeRefuses();
        everyEdgeThereAndBack();
        fullStackRefuses();
        noSuchWord();
        CHECK.finish();
    }

    private static void key() {
        WideWordStack stack = new WideWordStack();
        CHECK.due("key(0)", stack.key((char) 0), true);
        CHECK.due("key(255)", stack.key((char) 255), true);
        CHECK.due("key(256)", stack.key((char) 256), false);
        CHECK.due("key(65535)", stack.key((char) 65535), false);
        CHECK.due("text after these", Words.text(stack), "\u0000\u00ff");
        for (int i = 2; i < 80; i++) {
            CHECK.due("key number " + (i + 1), stack.key((char) ('a' + i % 26)), true);
        }
        CHECK.due("key number 81", stack.key('z'), false);
        CHECK.due("letter(79)", stack.letter(79), (int) (char) ('a' + 79 % 26));
        CHECK.due("letter(80)", stack.letter(80), -1);
        CHECK.due("clear() of 80", stack.clear(), 80);
        CHECK.due("key after clear()", stack.key('q'), true);
        CHECK.due("letter(0) after clear()", stack.letter(0), (int) 'q');
    }

    private static void clear() {
        WideWordStack stack = Words.type(Words.stackOf(9), "abc");
        CHECK.due("clear() of 3", stack.clear(), 3);
        CHECK.due("letter(0) after clear()", stack.letter(0), -1);
        CHECK.due("clear() again", stack.clear(), 0);
        CHECK.due("stack after clear()", Words.stackText(stack), "9");
    }

    private static void letter() {
        WideWordStack stack = Words.type(new WideWordStack(), "a\u0000\u0080\u00ff");
        int[] codes = {'a', 0, 128, 255};
        for (int i = 0; i < codes.length; i++) {
            CHECK.due("letter(" + i + ")", stack.letter(i), codes[i]);
        }
        for (int i : new int[] {-1, 4, 79, 80, Integer.MIN_VALUE, Integer.MAX_VALUE}) {
            CHECK.due("letter(" + i + ") of 4", stack.letter(i), -1);
        }
    }

    private static void printRow(BigInteger word, boolean hex, String want) {
        WideWordStack stack = Words.type(Words.stackOf(Words.word(1), word), "old text");
        CHECK.due("print(1, " + hex + ") of " + word, stack.print(1, hex), want.length());
        CHECK.due("text of " + word, Words.text(stack), want);
        CHECK.due("stack after print", Words.stackText(stack), "1 " + word);
    }

    private static void print() {
        printRow(BigInteger.ZERO, false, "0");
        printRow(BigInteger.ZERO, true, "0x0");
        printRow(Words.word(9), false, "9");
        printRow(Words.word(10), false, "10");
        printRow(Words.word(10), true, "0xa");
        printRow(Words.word(16), true, "0x10");
        printRow(Words.word(1000000007), false, "1000000007");
        printRow(Words.word(0x0fedcba987654321L), true, "0xfedcba987654321");
        printRow(MOST, false, MOST_DECIMAL);
        printRow(MOST, true, "0x" + "f".repeat(64));
        printRow(Words.HALF, true, "0x8" + "0".repeat(63));
        printRow(BigInteger.TEN.pow(77), false, "1" + "0".repeat(77));
    }

    private static void parseRow(String text, boolean hex, BigInteger want) {
        WideWordStack stack = Words.type(Words.stackOf(1), text);
        CHECK.due("parse(" + hex + ") of " + text, Check.answer(() -> stack.parse(hex)), 2);
        CHECK.due("stack after parse of " + text, Words.stackText(stack), want + " 1");
        CHECK.due("letter(0) after parse of " + text, stack.letter(0), -1);
    }

    private static void parse() {
        parseRow("0", false, BigInteger.ZERO);
        parseRow("0x0", true, BigInteger.ZERO);
        parseRow("7", false, Words.word(7));
        parseRow("1234567890", false, Words.word(1234567890));
        parseRow("0x123456789abcdef0", true, Words.word(0x123456789abcdef0L));
        parseRow(MOST_DECIMAL, false, MOST);
        parseRow("0x" + "f".repeat(64), true, MOST);
        parseRow("1" + "0".repeat(77), false, BigInteger.TEN.pow(77));
    }

    private static void parseRefusal(String text, boolean hex) {
        WideWordStack stack = Words.type(Words.stackOf(1), text);
        CHECK.due("parse(" + hex + ") of " + text, Check.answer(() -> stack.parse(hex)), ARGUMENT);
        CHECK.due("stack after refused parse", Words.stackText(stack), "1");
        CHECK.due("text after refused parse", Words.text(stack), text);
    }

    private static void parseRefuses() {
        String tooLarge = MOST_DECIMAL.substring(0, 77) + "6";
        String[] decimal = {"", "00", "01", "-1", "+1", " 1", "1 ", "1a", "a", "0x1", "0x0", "/", ":", "1:", "1/",
            tooLarge, "2" + "0".repeat(77), "1" + "0".repeat(78), "9".repeat(80), "1\u0000", "\u00b9"};
        for (String text : decimal) {
            parseRefusal(text, false);
        }
        String[] hex = {"", "0", "0x", "x", "00", "0x00", "0x01", "0X1", "0xA", "0xF", "0xg", "0x`", "0x:", "0x/",
            "0x1g", "1x1", "x01", "0x 1", "0x-1", "0x1" + "0".repeat(64), "0x" + "f".repeat(65), "0x" + "f".repeat(78),
            "12", "ff", "0x0x1"};
        for (String text : hex) {
            parseRefusal(text, true);
        }
    }

    private static void encodeRow(BigInteger word, String want) {
        WideWordStack stack = Words.type(Words.stackOf(Words.word(1), word), "old text");
        CHECK.due("encode(1) of " + word, stack.encode(1), want.length());
        CHECK.due("code of " + word, Words.text(stack), want);
        CHECK.due("stack after encode", Words.stackText(stack), "1 " + word);
    }

    private static void encode() {
        encodeRow(BigInteger.ZERO, "\u0080");
        encodeRow(Words.word(1), "\u0001");
        encodeRow(Words.word(127), "\u007f");
        encodeRow(Words.word(128), "\u0081\u0080");
        encodeRow(Words.word(255), "\u0081\u00ff");
        encodeRow(Words.word(256), "\u0082\u0001\u0000");
        encodeRow(Words.word(0x10000), "\u0083\u0001\u0000\u0000");
        encodeRow(MOST, "\u00a0" + "\u00ff".repeat(32));
        encodeRow(BigInteger.ONE.shiftLeft(248), "\u00a0\u0001" + "\u0000".repeat(31));
        encodeRow(BigInteger.ONE.shiftLeft(248).subtract(BigInteger.ONE), "\u009f" + "\u00ff".repeat(31));
    }

    private static void decodeRow(String text, BigInteger want) {
        WideWordStack stack = Words.type(Words.stackOf(1), text);
        CHECK.due("decode() to " + want, Check.answer(stack::decode), 2);
        CHECK.due("stack after decode()", Words.stackText(stack), want + " 1");
        CHECK.due("letter(0) after decode()", stack.letter(0), -1);
    }

    private static void decode() {
        decodeRow("\u0080", BigInteger.ZERO);
        decodeRow("\u0001", Words.word(1));
        decodeRow("\u007f", Words.word(127));
        decodeRow("\u0081\u0080", Words.word(128));
        decodeRow("\u0081\u00ff", Words.word(255));
        decodeRow("\u0082\u0001\u0000", Words.word(256));
        decodeRow("\u0084\u0001\u0002\u0003\u0004", Words.word(0x01020304));
        decodeRow("\u00a0" + "\u00ff".repeat(32), MOST);
        decodeRow("\u00a0\u0001" + "\u0000".repeat(31), BigInteger.ONE.shiftLeft(248));
    }

    private static void decodeRefuses() {
        String[] texts = {"", "\u0000", "\u0081", "\u0081\u0000", "\u0081\u0001", "\u0081\u007f", "\u0080\u0080",
            "\u0080\u0001", "\u0001\u0001", "\u007f\u0080", "\u0082\u0001", "\u0082\u0000\u0080", "\u0082\u0000\u0000",
            "\u0082\u0001\u0000\u0000", "\u0081\u0080\u0080", "\u00a0" + "\u00ff".repeat(31),
            "\u00a0" + "\u00ff".repeat(33), "\u00a0\u0000" + "\u00ff".repeat(31), "\u00a1" + "\u00ff".repeat(33),
            "\u00ff", "\u00ff" + "\u00ff".repeat(79), "\u00a1", "\u0000\u0001", "\u0000\u0080"};
        for (String text : texts) {
            WideWordStack stack = Words.type(Words.stackOf(1), text);
            CHECK.due("decode() of " + text.chars().boxed().toList(), Check.answer(stack::decode), ARGUMENT);
            CHECK.due("stack after refused decode", Words.stackText(stack), "1");
            CHECK.due("text after refused decode", Words.text(stack), text);
        }
        for (int first = 0; first < 256; first++) {
            WideWordStack stack = Words.type(new WideWordStack(), String.valueOf((char) first));
            String want = first > 0 && first <= 128 ? "1" : ARGUMENT;
            CHECK.due("decode() of the one character " + first, Check.answer(stack::decode), want);
        }
    }

    private static void everyEdgeThereAndBack() {
        for (BigInteger word : Words.edges()) {
            printRow(word, false, Model.numeral(word, false));
            printRow(word, true, Model.numeral(word, true));
            encodeRow(word, Model.code(word));
            parseRow(Model.numeral(word, false), false, word);
            parseRow(Model.numeral(word, true), true, word);
            decodeRow(Model.code(word), word);
        }
        for (int bit = 0; bit < 256; bit++) {
            BigInteger word = BigInteger.ONE.shiftLeft(bit);
            printRow(word, true, Model.numeral(word, true));
            encodeRow(word, Model.code(word));
            decodeRow(Model.code(word), word);
        }
    }

    private static void fullStackRefuses() {
        WideWordStack full = Words.type(Words.full(), "12");
        CHECK.due("parse(false) with 12 words", Check.answer(() -> full.parse(false)), STATE);
        CHECK.due("parse(true) of no numeral with 12 words", Check.answer(() -> full.parse(true)), ARGUMENT);
        CHECK.due("decode() of no code with 12 words", Check.answer(full::decode), ARGUMENT);
        CHECK.due("text after refusals", Words.text(full), "12");
        full.clear();
        full.key('7');
        CHECK.due("decode() with 12 words", Check.answer(full::decode), STATE);
        CHECK.due("text after refused decode", Words.text(full), "7");
        CHECK.due("stack after refusals", Words.stackText(full), "1 2 3 4 5 6 7 8 9 10 11 12");
        full.drop();
        CHECK.due("decode() with 11 words", full.decode(), 12);
        CHECK.due("top after decode()", Words.read(full, 0), (int) '7');
        CHECK.due("print(11, false)", full.print(11, false), 2);
        CHECK.due("text after print(11, false)", Words.text(full), "12");
    }

    private static void noSuchWord() {
        WideWordStack stack = Words.type(Words.stackOf(5, 6), "kept");
        for (int k : new int[] {-1, 2, 12, Integer.MIN_VALUE, Integer.MAX_VALUE}) {
            CHECK.due("print(" + k + ", false)", Check.answer(() -> stack.print(k, false)), INDEX);
            CHECK.due("print(" + k + ", true)", Check.answer(() -> stack.print(k, true)), INDEX);
            CHECK.due("encode(" + k + ")", Check.answer(() -> stack.encode(k)), INDEX);
        }
        CHECK.due("text after these", Words.text(stack), "kept");
        CHECK.due("print(0, false) of none", Check.answer(() -> new WideWordStack().print(0, false)), INDEX);
        CHECK.due("encode(0) of none", Check.answer(() -> new WideWordStack().encode(0)), INDEX);
    }
}
