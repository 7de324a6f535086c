import java.math.BigInteger;
import java.util.List;

/** Promises 8 to 12 and 16 to 19 over words near every edge, beside the model. */
public final class SweepTest {
    private static final Check CHECK = new Check("SweepTest");
    private static final List<BigInteger> EDGES = Words.edges();

    public static void main(String[] args) {
        for (BigInteger x : EDGES) {
            written(x);
            wrapped(16, x);
            wrapped(20, x);
            for (BigInteger y : EDGES) {
                ofTwo(x, y);
            }
            ofThree(x);
        }
        CHECK.finish();
    }

    private static void ofTwo(BigInteger x, BigInteger y) {
        for (int operation = 0; operation <= 24; operation++) {
            if (Model.taken(operation) == 2) {
                wrapped(operation, x, y);
            }
        }
        for (int operation = 0; operation <= 4; operation++) {
            exact(operation, false, x, y);
            exact(operation, true, x, y);
        }
    }

    /** Every x with a third of the edges as y, each with a fifth of them as z. */
    private static void ofThree(BigInteger x) {
        for (int i = 0; i < EDGES.size(); i += 3) {
            for (int j = i % 5; j < EDGES.size(); j += 5) {
                wrapped(7, x, EDGES.get(i), EDGES.get(j));
                wrapped(8, x, EDGES.get(i), EDGES.get(j));
            }
        }
    }

    private static void wrapped(int operation, BigInteger... taken) {
        WideWordStack stack = Words.stackOf(taken);
        Model model = new Model(taken);
        String call = "wrapping(" + operation + ") of " + model.state();
        CHECK.due(call, Check.answer(stack, s -> s.wrapping(operation)), model.wrapping(operation));
        CHECK.due("the state after " + call, Words.state(stack), model.state());
    }

    private static void exact(int operation, boolean signed, BigInteger x, BigInteger y) {
        WideWordStack one = Words.stackOf(x, y);
        Model model = new Model(x, y);
        String call = "(" + operation + ", " + signed + ") of " + model.state();
        CHECK.due("fits" + call, one.fits(operation, signed), model.fits(operation, signed));
        CHECK.due("checked" + call, Check.answer(one, s -> s.checked(operation, signed)),
                model.checked(operation, signed));
        CHECK.due("the state after checked" + call, Words.state(one), model.state());
        WideWordStack other = Words.stackOf(x, y);
        Model second = new Model(x, y);
        CHECK.due("nearest" + call, Check.answer(other, s -> s.nearest(operation, signed)),
                second.nearest(operation, signed));
        CHECK.due("the state after nearest" + call, Words.state(other), second.state());
    }

    private static void written(BigInteger word) {
        WideWordStack stack = Words.stackOf(word);
        CHECK.due("width(0) of " + word, stack.width(0), word.bitLength());
        for (boolean hex : new boolean[] {false, true}) {
            CHECK.leaves("print(0, " + hex + ")", stack, s -> s.print(0, hex), Model.numeral(word, hex).length(),
                    Words.listed(word), Model.numeral(word, hex));
            CHECK.due("parse(" + hex + ")", Check.answer(stack, s -> s.parse(hex)), 2);
            CHECK.leaves("drop() of what was read", stack, WideWordStack::drop, 1, Words.listed(word), "");
        }
        CHECK.leaves("encode(0)", stack, s -> s.encode(0), Model.code(word).length(), Words.listed(word),
                Model.code(word));
        CHECK.leaves("decode()", stack, WideWordStack::decode, 2, Words.listed(word, word), "");
    }
}
