import java.math.BigInteger;
import java.util.List;

/** All promises: runs of mixed calls, each answer and the state at the end beside the model's. */
public final class RunsTest {
    private static final Check CHECK = new Check("RunsTest");
    private static final int RUNS = 4000;
    // Reading a whole state takes up to 131 calls, and an object is good for 512.
    private static final int MOST_CALLS = 320;
    private static final List<BigInteger> EDGES = Words.edges();

    private final WideWordStack stack = new WideWordStack();
    private final Model model = new Model();
    private final StringBuilder told = new StringBuilder();
    private long seed;

    private RunsTest(int run) {
        seed = run * 0x9E3779B97F4A7C15L + 1;
        told.append("run ").append(run).append(":");
    }

    public static void main(String[] args) {
        for (int run = 0; run < RUNS; run++) {
            new RunsTest(run).play(1 + run % MOST_CALLS);
        }
        CHECK.finish();
    }

    /** A sequence that is the same every time: the tests must not depend on luck. */
    private int next(int bound) {
        seed = seed * 6364136223846793005L + 1442695040888963407L;
        return (int) Long.remainderUnsigned(seed >>> 33, bound);
    }

    private BigInteger nextWord() {
        if (next(2) == 0) {
            return EDGES.get(next(EDGES.size()));
        }
        BigInteger word = BigInteger.ZERO;
        int digits = 1 + next(16);
        for (int i = 0; i < digits; i++) {
            word = word.shiftLeft(16).add(BigInteger.valueOf(next(65536)));
        }
        return word;
    }

    private int nextIndex() {
        int kind = next(12);
        return kind == 0 ? next(20) - 4 : kind == 1 ? -next(1 << 30) : next(Math.max(1, model.words.size()));
    }

    private void play(int calls) {
        for (int i = 0; i < calls; i++) {
            call();
        }
        due("(the state)", Words.state(stack), model.state());
    }

    private void due(String call, String got, String want) {
        told.append(' ').append(call);
        CHECK.due(told, got, want);
    }

    private void call() {
        int kind = next(30);
        if (kind < 8) {
            BigInteger word = nextWord();
            due("push " + word, Check.answer(stack, s -> Words.push(s, word)), model.push(word));
        } else if (kind < 13) {
            int operation = next(27) - 1;
            due("wrapping " + operation, Check.answer(stack, s -> s.wrapping(operation)), model.wrapping(operation));
        } else if (kind < 17) {
            exactCall(kind, next(20) == 0 ? next(9) - 2 : next(5), next(2) == 0);
        } else if (kind < 23) {
            stackCall(kind, nextIndex(), next(6) - 1);
        } else {
            textCall(kind, nextIndex(), next(2) == 0);
        }
    }

    private void exactCall(int kind, int operation, boolean signed) {
        String named = operation + " " + signed;
        if (kind == 13) {
            due("checked " + named, Check.answer(stack, s -> s.checked(operation, signed)),
                    model.checked(operation, signed));
        } else if (kind == 14) {
            due("nearest " + named, Check.answer(stack, s -> s.nearest(operation, signed)),
                    model.nearest(operation, signed));
        } else {
            due("fits " + named, Check.answer(stack, s -> s.fits(operation, signed)), model.fits(operation, signed));
        }
    }

    private void stackCall(int kind, int k, int i) {
        switch (kind) {
            case 17:
                due("copy " + k, Check.answer(stack, s -> s.copy(k)), model.copy(k));
                break;
            case 18:
                due("swap " + k, Check.answer(stack, s -> s.swap(k)), model.swap(k));
                break;
            case 19:
                due("drop", Check.answer(stack, WideWordStack::drop), model.drop());
                break;
            case 20:
                due("limb " + k + " " + i, Check.answer(stack, s -> s.limb(k, i)), model.limb(k, i));
                break;
            case 21:
                due("width " + k, Check.answer(stack, s -> s.width(k)), model.width(k));
                break;
            default:
                due("depth", Check.answer(stack, WideWordStack::depth), model.depth());
                break;
        }
    }

    private void textCall(int kind, int k, boolean hex) {
        switch (kind) {
            case 23:
                due("print " + k + " " + hex, Check.answer(stack, s -> s.print(k, hex)), model.print(k, hex));
                break;
            case 24:
                due("encode " + k, Check.answer(stack, s -> s.encode(k)), model.encode(k));
                break;
            case 25:
                due("parse " + hex, Check.answer(stack, s -> s.parse(hex)), model.parse(hex));
                break;
            case 26:
                due("decode", Check.answer(stack, WideWordStack::decode), model.decode());
                break;
            case 27:
                keyCalls();
                break;
            case 28:
                due("letter " + k, Check.answer(stack, s -> s.letter(k)), model.letter(k));
                break;
            default:
                if (next(3) == 0) {
                    due("clear", Check.answer(stack, WideWordStack::clear), model.clear());
                }
                break;
        }
    }

    private void keyCalls() {
        String likely = "0123456789abcdefx\u0000\u0001\u007f\u0080\u0081\u0082\u00a0\u00ff\u0100";
        char c = likely.charAt(next(likely.length()));
        due("key " + (int) c, Check.answer(stack, s -> s.key(c)), model.key(c));
    }
}
