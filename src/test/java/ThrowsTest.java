import java.math.BigInteger;
import java.util.ArrayList;
import java.util.List;
import java.util.Set;
import java.util.TreeSet;
import java.util.function.Function;

/**
 * The sentence "A call that throws changes nothing; when more than one of the exceptions would be due, the one that
 * stands first in the throws clause is thrown": every call with arguments at and beyond its edges, in every state at
 * and beyond the edges of the stack and of the text, its answer and the whole state afterwards beside the model's.
 */
public final class ThrowsTest {
    private static final Check CHECK = new Check("ThrowsTest");
    private static final String[] CLAUSES = {
        "push IllegalStateException",
        "copy IndexOutOfBoundsException", "copy IllegalStateException",
        "swap IndexOutOfBoundsException",
        "drop IllegalStateException",
        "limb IndexOutOfBoundsException",
        "wrapping IllegalArgumentException", "wrapping IllegalStateException",
        "checked IllegalArgumentException", "checked IllegalStateException", "checked ArithmeticException",
        "nearest IllegalArgumentException", "nearest IllegalStateException", "nearest ArithmeticException",
        "print IndexOutOfBoundsException",
        "parse IllegalArgumentException", "parse IllegalStateException",
        "encode IndexOutOfBoundsException",
        "decode IllegalArgumentException", "decode IllegalStateException",
    };

    private static final List<Call> CALLS = new ArrayList<>();
    private static final Set<String> SEEN = new TreeSet<>();

    /** One call with its arguments, on the program and on the model. */
    private record Call(String name, String told, Function<WideWordStack, Object> real, Function<Model, String> due) {
    }

    public static void main(String[] args) {
        fillCalls();
        CHECK.sentence("Terms: A call that throws changes nothing, and the first exception is thrown", () -> {
            for (BigInteger[] words : stacks()) {
                for (String text : texts()) {
                    tryAll(words, text);
                }
            }
        });
        CHECK.sentence("every exception of every throws clause, and no other", () ->
            CHECK.due("what was thrown", SEEN, new TreeSet<>(List.of(CLAUSES))));
        CHECK.finish();
    }

    private static void tryAll(BigInteger[] words, String text) {
        for (Call call : CALLS) {
            WideWordStack stack = Words.type(Words.stackOf(words), text);
            Model model = new Model(words);
            model.text = text;
            String before = model.state();
            String told = call.told + " on " + before;
            String answer = Check.answer(stack, call.real);
            CHECK.due(told, answer, call.due.apply(model));
            CHECK.due("the state after " + told, Words.state(stack), model.state());
            if (answer.startsWith("throws.")) {
                SEEN.add(call.name + " " + answer.substring("throws.".length()));
                CHECK.due("the refused " + told, Words.state(stack), before);
            }
        }
    }

    private static List<BigInteger[]> stacks() {
        BigInteger[] tops = {BigInteger.ZERO, BigInteger.ONE, Words.word(200), Words.MOST, Words.SIGNED_LEAST};
        List<BigInteger[]> stacks = new ArrayList<>();
        stacks.add(new BigInteger[0]);
        for (BigInteger x : tops) {
            stacks.add(new BigInteger[] {x});
            for (BigInteger y : tops) {
                stacks.add(new BigInteger[] {x, y});
            }
        }
        for (int n : new int[] {3, 11, 12}) {
            for (BigInteger y : tops) {
                BigInteger[] words = new BigInteger[n];
                for (int k = 0; k < n; k++) {
                    words[k] = Words.word(-1000 * k - 7);
                }
                words[1] = y;
                stacks.add(words);
            }
        }
        return stacks;
    }

    private static List<String> texts() {
        return List.of("", "0", "12", "0x1f", "012", "\u0001", "\u0080", "\u0082\u0001\u0000", "\u0081\u0001",
                "q".repeat(79), "7".repeat(80));
    }

    private static void add(String name, String arguments, Function<WideWordStack, Object> real,
            Function<Model, String> due) {
        CALLS.add(new Call(name, name + "(" + arguments + ")", real, due));
    }

    private static void fillCalls() {
        add("push", "1, 2, 3, 4", s -> s.push(1, 2, 3, 4), m -> m.push(
                Words.power(192).add(Words.power(129)).add(BigInteger.valueOf(3).shiftLeft(64)).add(Words.word(4))));
        add("drop", "", WideWordStack::drop, Model::drop);
        add("depth", "", WideWordStack::depth, Model::depth);
        add("clear", "", WideWordStack::clear, Model::clear);
        add("decode", "", WideWordStack::decode, Model::decode);
        for (char c : new char[] {0, 'a', 255, 256, 65535}) {
            add("key", "" + (int) c, s -> s.key(c), m -> m.key(c));
        }
        for (int operation : new int[] {Integer.MIN_VALUE, -1, 0, 1, 2, 3, 4, 5, 6, 7, 8, 9, 10, 11, 12, 13, 14, 15,
            16, 17, 18, 19, 20, 21, 22, 23, 24, 25, Integer.MAX_VALUE}) {
            add("wrapping", "" + operation, s -> s.wrapping(operation), m -> m.wrapping(operation));
        }
        for (int k : new int[] {Integer.MIN_VALUE, -1, 0, 1, 2, 3, 10, 11, 12, 79, 80, Integer.MAX_VALUE}) {
            fillIndexed(k);
        }
        for (boolean either : new boolean[] {false, true}) {
            add("parse", "" + either, s -> s.parse(either), m -> m.parse(either));
            for (int operation : new int[] {Integer.MIN_VALUE, -1, 0, 1, 2, 3, 4, 5, 9, Integer.MAX_VALUE}) {
                fillExact(operation, either);
            }
        }
    }

    private static void fillIndexed(int k) {
        add("copy", "" + k, s -> s.copy(k), m -> m.copy(k));
        add("swap", "" + k, s -> s.swap(k), m -> m.swap(k));
        add("width", "" + k, s -> s.width(k), m -> m.width(k));
        add("letter", "" + k, s -> s.letter(k), m -> m.letter(k));
        add("print", k + ", false", s -> s.print(k, false), m -> m.print(k, false));
        add("print", k + ", true", s -> s.print(k, true), m -> m.print(k, true));
        add("encode", "" + k, s -> s.encode(k), m -> m.encode(k));
        for (int i : new int[] {Integer.MIN_VALUE, -1, 0, 3, 4, Integer.MAX_VALUE}) {
            add("limb", k + ", " + i, s -> s.limb(k, i), m -> m.limb(k, i));
        }
    }

    private static void fillExact(int operation, boolean signed) {
        String arguments = operation + ", " + signed;
        add("checked", arguments, s -> s.checked(operation, signed), m -> m.checked(operation, signed));
        add("nearest", arguments, s -> s.nearest(operation, signed), m -> m.nearest(operation, signed));
        add("fits", arguments, s -> s.fits(operation, signed), m -> m.fits(operation, signed));
    }
}
