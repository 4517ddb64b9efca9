/** Counts and prints the calls whose answer is not the one that is due. */
final class Check {
    interface Call {
        Object run();
    }

    static final String INDEX = "throws.IndexOutOfBoundsException";
    static final String ARGUMENT = "throws.IllegalArgumentException";
    static final String STATE = "throws.IllegalStateException";

    private String sentence = "";
    private int ofSentence = 1;
    private int calls;
    private int wrong;

    /** What a call answers as a text; an exception's exact class counts, not one above it. */
    static String answer(Call call) {
        try {
            return String.valueOf(call.run());
        } catch (RuntimeException e) {
            return "throws." + e.getClass().getSimpleName();
        }
    }

    /** For a call without an answer. */
    static String did(Runnable call) {
        return answer(() -> {
            call.run();
            return "done";
        });
    }

    /** The document's words that all answers up to the next sentence are held against. */
    void sentence(String words) {
        leaveSentence();
        sentence = words;
        ofSentence = 0;
    }

    private void leaveSentence() {
        if (ofSentence == 0) {
            wrong++;
            System.out.println("[" + sentence + "] was not tested");
        }
    }

    void due(String what, Object want, Call call) {
        same(what, String.valueOf(want), answer(call));
    }

    void done(String what, Runnable call) {
        same(what, "done", did(call));
    }

    /** For a refused call that would have no answer. */
    void refused(String what, String want, Runnable call) {
        same(what, want, did(call));
    }

    void same(String what, String want, String got) {
        calls++;
        ofSentence++;
        if (!want.equals(got)) {
            wrong++;
            String of = sentence.isEmpty() ? "" : "[" + sentence + "] ";
            System.out.println(of + what + " answered " + got + ", due is " + want);
        }
    }

    void end() {
        leaveSentence();
        System.out.println(calls + " answers, " + wrong + " not as due");
        if (wrong != 0 || calls == 0) {
            System.exit(1);
        }
    }
}
