import java.util.function.Function;

/** Counts the answers that are not as due and tells of each, with the sentence of the document that it breaks. */
final class Check {
    private final String name;
    private String sentence = "";
    private int sentences = 0;
    private int looked = 0;
    private int wrong = 0;

    Check(String name) {
        this.name = name;
    }

    /** Runs the test of one sentence of the document. */
    void sentence(String quoted, Runnable test) {
        sentences++;
        sentence = "[" + quoted + "] ";
        int before = looked;
        try {
            test.run();
        } catch (RuntimeException e) {
            tell("the test itself ended with " + e);
        }
        if (looked == before) {
            tell("the test looked at nothing");
        }
        sentence = "";
    }

    void due(Object call, Object got, Object want) {
        looked++;
        if (!String.valueOf(got).equals(String.valueOf(want))) {
            tell(call + " answered " + got + ", due is " + want);
        }
    }

    /** The call answers as due, and no word and no character has changed. */
    void keeps(String call, WideWordStack stack, Function<WideWordStack, Object> done, Object want) {
        String before = Words.state(stack);
        due(call, answer(stack, done), want);
        due("the state after " + call, Words.state(stack), before);
    }

    /** The call answers as due, and then these are the words, the top first, and this is the text. */
    void leaves(String call, WideWordStack stack, Function<WideWordStack, Object> done, Object want,
            String words, String text) {
        due(call, answer(stack, done), want);
        due("the state after " + call, Words.state(stack), Words.state(words, text));
    }

    /** The call's answer as a text, or throws. and the exception's name. */
    static String answer(WideWordStack stack, Function<WideWordStack, Object> call) {
        try {
            return String.valueOf(call.apply(stack));
        } catch (RuntimeException e) {
            return "throws." + e.getClass().getSimpleName();
        }
    }

    private void tell(String what) {
        wrong++;
        System.out.println(name + ": " + sentence + what);
    }

    void finish() {
        System.out.println(name + ": " + sentences + " sentences, " + looked + " answers, " + wrong + " not as due");
        if (wrong != 0 || looked == 0) {
            System.exit(1);
        }
    }
}
