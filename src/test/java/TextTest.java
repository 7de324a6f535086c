/** Promises 13 to 15 and the terms of the text, a test for each sentence. */
public final class TextTest {
    private static final Check CHECK = new Check("TextTest");
    // Two words that no call of these promises may touch.
    private static final String WORDS = "5 6";
    private static final String EIGHTY = "abcdefghij".repeat(8);

    public static void main(String[] args) {
        CHECK.sentence("Terms: The TEXT is at most 80 characters", TextTest::atMostEighty);
        CHECK.sentence("Terms: with codes 0 .. 255", TextTest::everyCode);
        CHECK.sentence("Terms: at first none", TextTest::atFirstNone);
        keySentences();
        clearSentences();
        letterSentences();
        CHECK.finish();
    }

    private static WideWordStack of(String text) {
        return Words.type(Words.stackOf(5, 6), text);
    }

    private static void atMostEighty() {
        WideWordStack stack = new WideWordStack();
        for (int n = 1; n <= 80; n++) {
            CHECK.due("key number " + n, stack.key((char) n), true);
        }
        for (int i = 0; i < 80; i++) {
            CHECK.due("letter(" + i + ")", stack.letter(i), i + 1);
        }
        CHECK.due("key number 81", stack.key('z'), false);
        CHECK.due("key number 82", stack.key('z'), false);
        CHECK.due("letter(80)", stack.letter(80), -1);
        CHECK.due("clear()", stack.clear(), 80);
    }

    private static void everyCode() {
        for (int code = 0; code <= 255; code++) {
            char c = (char) code;
            CHECK.leaves("key(" + code + ")", of("a"), s -> s.key(c), true, WORDS, "a" + c);
            CHECK.due("letter(1) after key(" + code + ")", of("a" + c).letter(1), code);
        }
    }

    private static void atFirstNone() {
        CHECK.keeps("letter(0) of a new object", new WideWordStack(), s -> s.letter(0), -1);
        CHECK.keeps("clear() of a new object", new WideWordStack(), WideWordStack::clear, 0);
    }

    private static void keySentences() {
        CHECK.sentence("Promise 13: Puts a character at the end of the text: true", () -> {
            CHECK.leaves("key(b) on none", of(""), s -> s.key('b'), true, WORDS, "b");
            CHECK.leaves("key(b) on ab", of("ab"), s -> s.key('b'), true, WORDS, "abb");
            CHECK.leaves("key(b) on 79", of(EIGHTY.substring(1)), s -> s.key('b'), true, WORDS,
                    EIGHTY.substring(1) + "b");
            WideWordStack cleared = of(EIGHTY);
            cleared.clear();
            CHECK.leaves("key(b) after clear()", cleared, s -> s.key('b'), true, WORDS, "b");
        });
        CHECK.sentence("Promise 13: False, changing nothing, when its code is above 255", () -> {
            for (int code : new int[] {256, 257, 256 + 'a', 511, 512, 0x7fff, 0x8000, 0xff00, 0xffff}) {
                CHECK.keeps("key(" + code + ") on none", of(""), s -> s.key((char) code), false);
                CHECK.keeps("key(" + code + ") on ab", of("ab"), s -> s.key((char) code), false);
            }
        });
        CHECK.sentence("Promise 13: False, changing nothing, when the text has 80", () -> {
            for (int code : new int[] {'z', 0, 128, 255}) {
                CHECK.keeps("key(" + code + ") on 80", of(EIGHTY), s -> s.key((char) code), false);
            }
        });
        CHECK.sentence("Promise 13: False, changing nothing, when both hold", () -> {
            CHECK.keeps("key(256) on 80", of(EIGHTY), s -> s.key((char) 256), false);
            CHECK.keeps("key(65535) on 80", of(EIGHTY), s -> s.key((char) 65535), false);
        });
    }

    private static void clearSentences() {
        CHECK.sentence("Promise 14: Makes the text empty", () -> {
            for (String text : new String[] {"", "a", "abc", "\u0000", EIGHTY}) {
                CHECK.leaves("clear() of " + text, of(text), WideWordStack::clear, text.length(), WORDS, "");
            }
        });
        CHECK.sentence("Promise 14: how many characters it had", () -> {
            for (int n = 0; n <= 80; n++) {
                WideWordStack stack = of(EIGHTY.substring(0, n));
                CHECK.due("clear() of " + n, stack.clear(), n);
                CHECK.due("clear() once more", stack.clear(), 0);
            }
            WideWordStack refused = of("ab");
            refused.key((char) 256);
            CHECK.due("clear() after a refused key", refused.clear(), 2);
        });
    }

    private static void letterSentences() {
        CHECK.sentence("Promise 15: The code of character i of the text (0 is the first)", () -> {
            String text = "a\u0000\u007f\u0080\u00ff";
            int[] codes = {'a', 0, 127, 128, 255};
            for (int i = 0; i < codes.length; i++) {
                int at = i;
                CHECK.keeps("letter(" + i + ")", of(text), s -> s.letter(at), codes[i]);
            }
            CHECK.keeps("letter(79) of 80", of(EIGHTY), s -> s.letter(79), (int) 'j');
        });
        CHECK.sentence("Promise 15: -1 when there is none", () -> {
            for (int n : new int[] {0, 1, 2, 79, 80}) {
                for (int i : new int[] {-1, n, n + 1, 80, 81, -n - 1, Integer.MAX_VALUE, Integer.MIN_VALUE}) {
                    CHECK.keeps("letter(" + i + ") of " + n, of(EIGHTY.substring(0, n)), s -> s.letter(i), -1);
                }
            }
            // Reading a state asks for a letter that there is none of, too: so here the words alone are read.
            WideWordStack asked = of("abc");
            asked.letter(3);
            CHECK.due("the words after letter(3)", Words.stackText(asked), WORDS);
            WideWordStack cleared = of("abc");
            cleared.clear();
            cleared.key('d');
            CHECK.keeps("letter(1) of what was cleared", cleared, s -> s.letter(1), -1);
        });
    }
}
