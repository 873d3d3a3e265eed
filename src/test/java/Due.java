import java.util.Objects;

/** Counts the calls whose answers are not the ones that are due, and tells each of them. */
final class Due {

    interface Call {
        Object answer();
    }

    private int asked;
    private int wrong;
    private String sentence = "";

    /** The sentence of the document that is tested from here on. */
    void about(String sentence) {
        this.sentence = "\"" + sentence + "\": ";
    }

    void is(Object want, String what, Call call) {
        asked++;
        Object got = outcome(call);
        if (!Objects.equals(got, want)) {
            wrong++;
            System.out.println(sentence + what + " answered " + got + ", due is " + want);
        }
    }

    void outOfBounds(String what, Call call) {
        is("throws.IndexOutOfBoundsException", what, call);
    }

    void illegalArgument(String what, Call call) {
        is("throws.IllegalArgumentException", what, call);
    }

    void illegalState(String what, Call call) {
        is("throws.IllegalStateException", what, call);
    }

    /** The answer, or the name of what was thrown, exactly that and none below it. */
    static Object outcome(Call call) {
        try {
            return call.answer();
        } catch (RuntimeException e) {
            return "throws." + e.getClass().getSimpleName();
        }
    }

    void end(String test) {
        System.out.println(test + ": " + asked + " asked, " + wrong + " wrong");
        if (wrong != 0) {
            System.exit(1);
        }
    }
}
