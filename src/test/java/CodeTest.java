import java.math.BigInteger;

/** Promises 18 and 19 and the terms of codes, a test for each sentence. */
public final class CodeTest {
    private static final Check CHECK = new Check("CodeTest");
    private static final String ARGUMENT = "throws.IllegalArgumentException";
    private static final String STATE = "throws.IllegalStateException";
    private static final String INDEX = "throws.IndexOutOfBoundsException";
    private static final String EIGHTY = "abcdefghij".repeat(8);

    public static void main(String[] args) {
        codeSentences();
        encodeSentences();
        decodeSentences();
        noCodeSentences();
        fullStackSentences();
        CHECK.finish();
    }

    private static String chars(int... codes) {
        StringBuilder all = new StringBuilder();
        for (int code : codes) {
            all.append((char) code);
        }
        return all.toString();
    }

    private static String repeated(int code, int times) {
        return chars(code).repeat(times);
    }

    /** Encoded from below another word, over an old text, and decoded again. */
    private static void bothWays(Number word, String code) {
        CHECK.leaves("encode(1) of " + word, Words.type(Words.stackOf(1, word), "old text"), s -> s.encode(1),
                code.length(), Words.listed(1, word), code);
        decoded(code, word);
    }

    private static void decoded(String code, Number want) {
        CHECK.leaves("decode() of " + Words.shown(code), Words.type(Words.stackOf(1), code), WideWordStack::decode, 2,
                Words.listed(want, 1), "");
    }

    private static void noCode(String text) {
        CHECK.keeps("decode() of " + Words.shown(text), Words.type(Words.stackOf(1, 2), text),
                WideWordStack::decode, ARGUMENT);
    }

    private static void codeSentences() {
        CHECK.sentence("Terms: Its CODE is: for 0 the one character 128", () -> bothWays(0, chars(128)));
        CHECK.sentence("Terms: for 1 .. 127 that character", () -> {
            for (int word = 1; word <= 127; word++) {
                bothWays(word, chars(word));
            }
        });
        CHECK.sentence("Terms: otherwise the character 128 + n and its n lowest bytes, the highest first", () -> {
            bothWays(0x0102, chars(130, 1, 2));
            bothWays(0x01020304, chars(132, 1, 2, 3, 4));
            bothWays(0x0102030405060708L, chars(136, 1, 2, 3, 4, 5, 6, 7, 8));
            bothWays(Words.MOST, chars(160) + repeated(255, 32));
            StringBuilder code = new StringBuilder(chars(160));
            BigInteger word = BigInteger.ZERO;
            for (int i = 1; i <= 32; i++) {
                code.append((char) i);
                word = word.shiftLeft(8).add(BigInteger.valueOf(i));
            }
            bothWays(word, code.toString());
        });
        CHECK.sentence("Terms: n being the least number with which they make up the word", () -> {
            bothWays(128, chars(129, 128));
            bothWays(255, chars(129, 255));
            for (int n = 2; n <= 32; n++) {
                bothWays(Words.power(8 * n - 8), chars(128 + n, 1) + repeated(0, n - 1));
                bothWays(Words.power(8 * n - 1), chars(128 + n, 128) + repeated(0, n - 1));
                bothWays(Words.power(8 * n).subtract(BigInteger.ONE), chars(128 + n) + repeated(255, n));
            }
        });
    }

    private static void encodeSentences() {
        CHECK.sentence("Promise 18: The text becomes the code of word k", () -> {
            for (String old : new String[] {"", "1", "12345", EIGHTY, "x\u0000\u00ff"}) {
                CHECK.leaves("encode(0) over " + old, Words.type(Words.stackOf(12, 34, 256), old),
                        s -> s.encode(0), 1, "12 34 256", chars(12));
                CHECK.leaves("encode(2) over " + old, Words.type(Words.stackOf(12, 34, 256), old),
                        s -> s.encode(2), 3, "12 34 256", chars(130, 1, 0));
            }
            CHECK.leaves("encode(11)", Words.upTo(12), s -> s.encode(11), 1, Words.listedUpTo(12), chars(12));
        });
        CHECK.sentence("Promise 18: Answers how many characters it has", () -> {
            CHECK.due("encode(0) of 0", Check.answer(Words.stackOf(0), s -> s.encode(0)), 1);
            CHECK.due("encode(0) of 127", Check.answer(Words.stackOf(127), s -> s.encode(0)), 1);
            CHECK.due("encode(0) of 128", Check.answer(Words.stackOf(128), s -> s.encode(0)), 2);
            CHECK.due("encode(0) of 256", Check.answer(Words.stackOf(256), s -> s.encode(0)), 3);
            CHECK.due("encode(0) of -1", Check.answer(Words.stackOf(-1), s -> s.encode(0)), 33);
        });
        CHECK.sentence("Promise 18: IndexOutOfBoundsException when there is no word k", () -> {
            for (int n = 0; n <= 12; n++) {
                for (int k : new int[] {-1, n, n + 1, -n - 1, Integer.MAX_VALUE, Integer.MIN_VALUE}) {
                    CHECK.keeps("encode(" + k + ") of " + n, Words.type(Words.upTo(n), "kept"), s -> s.encode(k),
                            INDEX);
                }
            }
        });
    }

    private static void decodeSentences() {
        CHECK.sentence("Promise 19: that word is put on top and the text made empty", () -> {
            decoded(chars(7), 7);
            decoded(chars(130, 1, 0), 256);
            CHECK.leaves("decode() on none", Words.type(new WideWordStack(), chars(7)), WideWordStack::decode, 1, "7", "");
            WideWordStack twice = Words.type(Words.stackOf(1), chars(7));
            twice.decode();
            CHECK.keeps("decode() once more", twice, WideWordStack::decode, ARGUMENT);
        });
        CHECK.sentence("Promise 19: Answers how many words there are then", () -> {
            for (int n = 0; n <= 11; n++) {
                CHECK.due("decode() on " + n, Check.answer(Words.type(Words.upTo(n), chars(13)),
                        WideWordStack::decode), n + 1);
            }
        });
    }

    private static void noCodeSentences() {
        CHECK.sentence("Promise 19: IllegalArgumentException for the empty text", () -> noCode(""));
        CHECK.sentence("Promise 19: IllegalArgumentException for a first character that begins no code", () -> {
            for (int n = 0; n <= 33; n++) {
                noCode(chars(0) + repeated(255, n));
            }
            for (int first = 161; first <= 255; first++) {
                noCode(chars(first));
                noCode(chars(first) + repeated(255, 32));
                noCode(chars(first) + repeated(255, Math.min(79, first - 128)));
            }
        });
        CHECK.sentence("Promise 19: IllegalArgumentException for more behind the code of 0 .. 127", () -> {
            for (int first = 1; first <= 128; first++) {
                noCode(chars(first, 0));
                noCode(chars(first, first));
                noCode(chars(first) + repeated(255, 79));
            }
        });
        CHECK.sentence("Promise 19: IllegalArgumentException for fewer bytes than 128 + n tells of", () -> {
            for (int n = 1; n <= 32; n++) {
                for (int bytes = 0; bytes < n; bytes++) {
                    noCode(chars(128 + n) + repeated(255, bytes));
                }
            }
        });
        CHECK.sentence("Promise 19: IllegalArgumentException for more bytes than 128 + n tells of", () -> {
            for (int n = 1; n <= 32; n++) {
                noCode(chars(128 + n) + repeated(255, n + 1));
                noCode(chars(128 + n) + repeated(255, n) + chars(0));
                noCode(chars(128 + n) + repeated(255, 79));
            }
        });
        CHECK.sentence("Promise 19: IllegalArgumentException when fewer bytes would make up the word", () -> {
            for (int n = 2; n <= 32; n++) {
                noCode(chars(128 + n, 0) + repeated(255, n - 1));
                noCode(chars(128 + n) + repeated(0, n));
            }
        });
        CHECK.sentence("Promise 19: IllegalArgumentException when the character alone would be the code", () -> {
            for (int small = 0; small <= 127; small++) {
                noCode(chars(129, small));
            }
            decoded(chars(129, 128), 128);
        });
    }

    private static void fullStackSentences() {
        CHECK.sentence("Promise 19: IllegalStateException when there are 12 words", () -> {
            String[] codes = {chars(13), chars(128), chars(129, 200), chars(160) + repeated(255, 32)};
            for (String code : codes) {
                CHECK.keeps("decode() of " + Words.shown(code) + " on 12", Words.type(Words.upTo(12), code),
                        WideWordStack::decode, STATE);
            }
        });
        CHECK.sentence("Promise 19: no code of a word and 12 words, the first exception", () -> {
            String[] texts = {"", chars(0), chars(129), chars(129, 5), chars(5, 5), chars(161), EIGHTY};
            for (String text : texts) {
                CHECK.keeps("decode() of " + Words.shown(text) + " on 12", Words.type(Words.upTo(12), text),
                        WideWordStack::decode, ARGUMENT);
            }
        });
    }
}
