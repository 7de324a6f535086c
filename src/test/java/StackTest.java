import java.math.BigInteger;

/** Promises 1 to 8 and the terms of the stack, a test for each sentence. */
public final class StackTest {
    private static final Check CHECK = new Check("StackTest");
    private static final String STATE = "throws.IllegalStateException";
    private static final String INDEX = "throws.IndexOutOfBoundsException";
    // A text that no call of these promises may touch.
    private static final String KEPT = "kept";

    public static void main(String[] args) {
        CHECK.sentence("What it is: An object is used for at most 512 calls", StackTest::lastOfItsCalls);
        CHECK.sentence("Terms: A WORD is a whole number 0 .. 2^256 - 1", StackTest::leastAndGreatestWord);
        CHECK.sentence("Terms: Its LIMBS 0 .. 3 are its 64-bit parts, the highest first", StackTest::highestLimbFirst);
        CHECK.sentence("Terms: as longs (of which only the bits count)", StackTest::onlyBitsCount);
        CHECK.sentence("Terms: The STACK has at most 12 words", StackTest::atMostTwelve);
        CHECK.sentence("Terms: word 0 is the top, word 1 the one below it", StackTest::wordsFromTheTop);
        CHECK.sentence("Promise 1: An empty stack", StackTest::newStackIsEmpty);
        CHECK.sentence("Promise 1: an empty text", StackTest::newTextIsEmpty);
        pushSentences();
        copySentences();
        swapSentences();
        dropSentences();
        CHECK.sentence("Promise 6: How many words there are", StackTest::depthOfEach);
        limbSentences();
        widthSentences();
        CHECK.finish();
    }

    private static WideWordStack of(Number... words) {
        return Words.type(Words.stackOf(words), KEPT);
    }

    private static WideWordStack upTo(int n) {
        return Words.type(Words.upTo(n), KEPT);
    }

    /** Numbers that are no word's when there are n, the nearest ones first. */
    private static int[] noWordsOf(int n) {
        return new int[] {-1, n, n + 1, -n - 1, 99, Integer.MAX_VALUE, Integer.MIN_VALUE, Integer.MIN_VALUE + 11};
    }

    /** Rounds of six calls, and two more. */
    private static void lastOfItsCalls() {
        WideWordStack stack = new WideWordStack();
        for (int i = 0; i < 85; i++) {
            stack.push(0, 0, 0, i);
            stack.copy(0);
            stack.wrapping(0);
            CHECK.due("width(0) in round " + i, stack.width(0), 32 - Integer.numberOfLeadingZeros(2 * i));
            stack.print(0, false);
            stack.drop();
        }
        CHECK.due("push, call number 511", stack.push(0, 0, 0, 5), 1);
        CHECK.due("parse(false), call number 512", stack.parse(false), 2);
    }

    private static void leastAndGreatestWord() {
        WideWordStack stack = new WideWordStack();
        stack.push(0, 0, 0, 0);
        stack.push(-1, -1, -1, -1);
        CHECK.due("the two words", Words.stackText(stack), Words.MOST + " 0");
        CHECK.due("width of the greatest", stack.width(0), 256);
        CHECK.due("width of the least", stack.width(1), 0);
        stack.print(0, false);
        CHECK.due("numeral of the greatest", Words.text(stack),
                "115792089237316195423570985008687907853269984665640564039457584007913129639935");
    }

    private static void highestLimbFirst() {
        WideWordStack stack = new WideWordStack();
        stack.push(0x0001020304050607L, 0x08090a0b0c0d0e0fL, 0x1011121314151617L, 0x18191a1b1c1d1e1fL);
        stack.print(0, true);
        CHECK.due("numeral of it", Words.text(stack), "0x1020304050607" + "08090a0b0c0d0e0f" + "1011121314151617"
                + "18191a1b1c1d1e1f");
        CHECK.due("limb 0", stack.limb(0, 0), 0x0001020304050607L);
        CHECK.due("limb 3", stack.limb(0, 3), 0x18191a1b1c1d1e1fL);
    }

    private static void onlyBitsCount() {
        long[] limbs = {-1L, Long.MIN_VALUE, Long.MAX_VALUE, 0xffffffff00000000L, 0x80000000L, -0x80000000L};
        for (long limb : limbs) {
            for (int i = 0; i < 4; i++) {
                WideWordStack stack = new WideWordStack();
                stack.push(i == 0 ? limb : 0, i == 1 ? limb : 0, i == 2 ? limb : 0, i == 3 ? limb : 0);
                BigInteger bits = new BigInteger(Long.toUnsignedString(limb)).shiftLeft(64 * (3 - i));
                stack.print(0, false);
                CHECK.due("numeral of limb " + i + " " + limb, Words.text(stack), bits);
                for (int j = 0; j < 4; j++) {
                    CHECK.due("limb(0, " + j + ") of limb " + i + " " + limb, stack.limb(0, j), i == j ? limb : 0L);
                }
            }
        }
    }

    private static void atMostTwelve() {
        CHECK.keeps("push of a thirteenth", upTo(12), s -> s.push(0, 0, 0, 13), STATE);
        CHECK.keeps("copy of a thirteenth", upTo(12), s -> s.copy(0), STATE);
        CHECK.keeps("parse of a thirteenth", Words.type(Words.upTo(12), "13"), s -> s.parse(false), STATE);
        CHECK.keeps("decode of a thirteenth", Words.type(Words.upTo(12), "\r"), WideWordStack::decode, STATE);
        CHECK.leaves("push of a twelfth", upTo(11), s -> s.push(0, 0, 0, 12), 12, "12 " + Words.listedUpTo(11), KEPT);
        CHECK.leaves("copy of a twelfth", upTo(11), s -> s.copy(10), 12, "11 " + Words.listedUpTo(11), KEPT);
        CHECK.leaves("NOT of a full stack", upTo(12), s -> s.wrapping(20), 12,
                Words.listed(-2, 2, 3, 4, 5, 6, 7, 8, 9, 10, 11, 12), KEPT);
    }

    private static void wordsFromTheTop() {
        WideWordStack stack = new WideWordStack();
        for (int n = 12; n >= 1; n--) {
            stack.push(n, 2L * n, 3L * n, 4L * n);
        }
        for (int k = 0; k < 12; k++) {
            for (int i = 0; i < 4; i++) {
                CHECK.due("limb(" + k + ", " + i + ")", stack.limb(k, i), (i + 1L) * (k + 1));
            }
        }
    }

    private static void newStackIsEmpty() {
        CHECK.keeps("depth() of a new object", new WideWordStack(), WideWordStack::depth, 0);
        CHECK.keeps("width(0) of a new object", new WideWordStack(), s -> s.width(0), -1);
        CHECK.keeps("limb(0, 0) of a new object", new WideWordStack(), s -> s.limb(0, 0), INDEX);
        CHECK.keeps("drop() of a new object", new WideWordStack(), WideWordStack::drop, STATE);
        WideWordStack stack = new WideWordStack();
        upTo(12);
        CHECK.due("depth() after another object's pushes", stack.depth(), 0);
    }

    private static void newTextIsEmpty() {
        CHECK.keeps("letter(0) of a new object", new WideWordStack(), s -> s.letter(0), -1);
        CHECK.keeps("clear() of a new object", new WideWordStack(), WideWordStack::clear, 0);
        CHECK.keeps("parse() of a new object", new WideWordStack(), s -> s.parse(false),
                "throws.IllegalArgumentException");
        WideWordStack stack = new WideWordStack();
        upTo(1);
        CHECK.due("letter(0) after another object's keys", stack.letter(0), -1);
    }

    private static void pushSentences() {
        CHECK.sentence("Promise 2: Puts the word with the limbs a, b, c, d on top", StackTest::pushPutsOnTop);
        CHECK.sentence("Promise 2: Answers how many words there are then", StackTest::pushAnswersHowMany);
        CHECK.sentence("Promise 2: IllegalStateException when there are 12", StackTest::pushOnTwelve);
    }

    private static void pushPutsOnTop() {
        BigInteger word = Words.power(192).add(Words.power(129)).add(Words.power(64)).add(Words.power(2));
        CHECK.leaves("push(1, 2, 1, 4) on none", of(), s -> s.push(1, 2, 1, 4), 1, word.toString(), KEPT);
        CHECK.leaves("push(1, 2, 1, 4) on 7 8", of(7, 8), s -> s.push(1, 2, 1, 4), 3, word + " 7 8", KEPT);
        CHECK.leaves("push(0, 0, 0, 0)", of(7), s -> s.push(0, 0, 0, 0), 2, "0 7", KEPT);
        WideWordStack reused = of(-1);
        reused.drop();
        CHECK.leaves("push where a word was dropped", reused, s -> s.push(0, 0, 0, 3), 1, "3", KEPT);
    }

    private static void pushAnswersHowMany() {
        WideWordStack stack = new WideWordStack();
        for (int n = 1; n <= 12; n++) {
            CHECK.due("push number " + n, stack.push(-n, n, 0, n), n);
        }
    }

    private static void pushOnTwelve() {
        CHECK.keeps("push(5, 6, 7, 8) on 12", upTo(12), s -> s.push(5, 6, 7, 8), STATE);
        CHECK.keeps("push(0, 0, 0, 0) on 12", upTo(12), s -> s.push(0, 0, 0, 0), STATE);
        WideWordStack again = upTo(12);
        CHECK.due("push on 12", Check.answer(again, s -> s.push(9, 9, 9, 9)), STATE);
        again.drop();
        CHECK.leaves("push after a refused one and drop()", again, s -> s.push(0, 0, 0, 1), 12, Words.listedUpTo(12), KEPT);
    }

    private static void copySentences() {
        CHECK.sentence("Promise 3: Puts a copy of word k on top", StackTest::copyPutsOnTop);
        CHECK.sentence("Promise 3: Answers how many words there are then", StackTest::copyAnswersHowMany);
        CHECK.sentence("Promise 3: IndexOutOfBoundsException when there is no word k", StackTest::copyOfNoWord);
        CHECK.sentence("Promise 3: IllegalStateException when there are 12", StackTest::copyOnTwelve);
        CHECK.sentence("Promise 3: no word k and 12 words, the first exception", StackTest::copyOfNoWordOnTwelve);
    }

    private static void copyPutsOnTop() {
        CHECK.leaves("copy(0) of 5", of(5), s -> s.copy(0), 2, "5 5", KEPT);
        CHECK.leaves("copy(1)", of(5, 6, 7), s -> s.copy(1), 4, "6 5 6 7", KEPT);
        CHECK.leaves("copy(2)", of(5, -6, -7), s -> s.copy(2), 4,
                Words.listed(-7, 5, -6, -7), KEPT);
        WideWordStack stack = of(5, 6);
        stack.copy(0);
        stack.wrapping(20);
        CHECK.due("the stack after the copy changed", Words.stackText(stack), Words.listed(-6, 5, 6));
    }

    private static void copyAnswersHowMany() {
        for (int n = 1; n <= 11; n++) {
            for (int k = 0; k < n; k++) {
                int word = k;
                CHECK.leaves("copy(" + k + ") of " + n, upTo(n), s -> s.copy(word), n + 1,
                        (k + 1) + " " + Words.listedUpTo(n), KEPT);
            }
        }
    }

    private static void copyOfNoWord() {
        for (int n = 0; n <= 11; n++) {
            for (int k : noWordsOf(n)) {
                CHECK.keeps("copy(" + k + ") of " + n, upTo(n), s -> s.copy(k), INDEX);
            }
        }
    }

    private static void copyOnTwelve() {
        for (int k = 0; k < 12; k++) {
            int word = k;
            CHECK.keeps("copy(" + k + ") of 12", upTo(12), s -> s.copy(word), STATE);
        }
    }

    private static void copyOfNoWordOnTwelve() {
        for (int k : noWordsOf(12)) {
            CHECK.keeps("copy(" + k + ") of 12", upTo(12), s -> s.copy(k), INDEX);
        }
    }

    private static void swapSentences() {
        CHECK.sentence("Promise 4: Words 0 and k change places", StackTest::swapChangesPlaces);
        CHECK.sentence("Promise 4: Answers k", StackTest::swapAnswersK);
        CHECK.sentence("Promise 4: IndexOutOfBoundsException when there is no word k", StackTest::swapOfNoWord);
    }

    private static void swapChangesPlaces() {
        CHECK.leaves("swap(0) of one", of(5), s -> s.swap(0), 0, "5", KEPT);
        CHECK.leaves("swap(0) of two", of(5, 6), s -> s.swap(0), 0, "5 6", KEPT);
        CHECK.leaves("swap(1) of two", of(-5, 6), s -> s.swap(1), 1, Words.listed(6, -5), KEPT);
        CHECK.leaves("swap(11) of 12", upTo(12), s -> s.swap(11), 11, "12 2 3 4 5 6 7 8 9 10 11 1", KEPT);
        CHECK.leaves("swap(3) of 12", upTo(12), s -> s.swap(3), 3, "4 2 3 1 5 6 7 8 9 10 11 12", KEPT);
        BigInteger wide = new BigInteger("f0123456789abcdef1123456789abcdef2123456789abcdef3123456789abcde", 16);
        WideWordStack two = of(wide, wide.not());
        CHECK.leaves("swap(1) of wide words", two, s -> s.swap(1), 1, Words.listed(wide.not(), wide), KEPT);
    }

    private static void swapAnswersK() {
        for (int k = 0; k < 12; k++) {
            int word = k;
            CHECK.due("swap(" + k + ") of 12", Check.answer(upTo(12), s -> s.swap(word)), k);
        }
    }

    private static void swapOfNoWord() {
        for (int n = 0; n <= 12; n++) {
            for (int k : noWordsOf(n)) {
                CHECK.keeps("swap(" + k + ") of " + n, upTo(n), s -> s.swap(k), INDEX);
            }
        }
    }

    private static void dropSentences() {
        CHECK.sentence("Promise 5: Takes the top away", StackTest::dropTakesTheTop);
        CHECK.sentence("Promise 5: Answers how many words there are then", StackTest::dropAnswersHowMany);
        CHECK.sentence("Promise 5: IllegalStateException when there is none", StackTest::dropOfNone);
    }

    private static void dropTakesTheTop() {
        CHECK.leaves("drop() of 5 6 7", of(5, 6, 7), WideWordStack::drop, 2, "6 7", KEPT);
        CHECK.leaves("drop() of 5", of(5), WideWordStack::drop, 0, "", KEPT);
        CHECK.leaves("drop() of 12", upTo(12), WideWordStack::drop, 11, "2 3 4 5 6 7 8 9 10 11 12", KEPT);
    }

    private static void dropAnswersHowMany() {
        WideWordStack stack = upTo(12);
        for (int n = 11; n >= 0; n--) {
            CHECK.due("drop() of " + (n + 1), Check.answer(stack, WideWordStack::drop), n);
        }
    }

    private static void dropOfNone() {
        CHECK.keeps("drop() of none", of(), WideWordStack::drop, STATE);
        WideWordStack emptied = of(5);
        emptied.drop();
        CHECK.keeps("drop() of none any more", emptied, WideWordStack::drop, STATE);
        CHECK.leaves("push after a refused drop()", emptied, s -> s.push(0, 0, 0, 6), 1, "6", KEPT);
    }

    private static void depthOfEach() {
        for (int n = 0; n <= 12; n++) {
            CHECK.keeps("depth() of " + n, upTo(n), WideWordStack::depth, n);
        }
    }

    private static void limbSentences() {
        CHECK.sentence("Promise 7: Limb i of word k", StackTest::limbOfEach);
        CHECK.sentence("Promise 7: IndexOutOfBoundsException when there is no such word", StackTest::limbOfNoWord);
        CHECK.sentence("Promise 7: IndexOutOfBoundsException when there is no such limb", StackTest::noSuchLimb);
    }

    private static void limbOfEach() {
        long[] limbs = {1, -2, Long.MIN_VALUE, Long.MAX_VALUE};
        for (int below = 0; below < 12; below++) {
            int k = below;
            WideWordStack stack = Words.type(new WideWordStack(), KEPT);
            stack.push(limbs[0], limbs[1], limbs[2], limbs[3]);
            for (int n = 0; n < below; n++) {
                stack.push(5, 6, 7, 8);
            }
            for (int i = 0; i < 4; i++) {
                CHECK.due("limb(" + k + ", " + i + ")", stack.limb(k, i), limbs[i]);
            }
            CHECK.keeps("limb(" + k + ", 0)", stack, s -> s.limb(k, 0), 1);
        }
    }

    private static void limbOfNoWord() {
        for (int n = 0; n <= 12; n++) {
            for (int k : noWordsOf(n)) {
                int i = Math.floorMod(k, 4);
                CHECK.keeps("limb(" + k + ", " + i + ") of " + n, upTo(n), s -> s.limb(k, i), INDEX);
            }
        }
    }

    private static void noSuchLimb() {
        for (int i : new int[] {-1, 4, 5, -4, 8, Integer.MAX_VALUE, Integer.MIN_VALUE}) {
            for (int k : new int[] {0, 1, 11}) {
                CHECK.keeps("limb(" + k + ", " + i + ") of 12", upTo(12), s -> s.limb(k, i), INDEX);
            }
            CHECK.keeps("limb(1, " + i + ") of 1", of(5), s -> s.limb(1, i), INDEX);
            CHECK.keeps("limb(0, " + i + ") of none", of(), s -> s.limb(0, i), INDEX);
        }
    }

    private static void widthSentences() {
        CHECK.sentence("Promise 8: How many bits word k has without zeros in front", StackTest::widthOfEachPower);
        CHECK.sentence("Promise 8: (0 for 0)", StackTest::widthOfZero);
        CHECK.sentence("Promise 8: -1 when there is no such word", StackTest::widthOfNoWord);
    }

    private static void widthOfEachPower() {
        for (int bit = 0; bit < 256; bit++) {
            BigInteger power = Words.power(bit);
            WideWordStack stack = Words.stackOf(power, power.subtract(BigInteger.ONE), Words.MOST);
            CHECK.keeps("width(0) of 2^" + bit, stack, s -> s.width(0), bit + 1);
            CHECK.due("width(1) of 2^" + bit + " - 1", stack.width(1), bit);
            CHECK.due("width(2) of the greatest word", stack.width(2), 256);
        }
    }

    private static void widthOfZero() {
        CHECK.keeps("width(0) of 0", of(0), s -> s.width(0), 0);
        CHECK.keeps("width(1) of 0", of(-1, 0, -1), s -> s.width(1), 0);
    }

    private static void widthOfNoWord() {
        for (int n = 0; n <= 12; n++) {
            for (int k : noWordsOf(n)) {
                CHECK.keeps("width(" + k + ") of " + n, upTo(n), s -> s.width(k), -1);
            }
        }
    }
}
