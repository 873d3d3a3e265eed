import java.util.List;

/** Objects on which the same calls were made: one of them refuses a call more, and must tell the same as the others. */
final class Twins {

    interface Calls {
        void on(DovecoteMail mail);
    }

    interface Call {
        Object on(DovecoteMail mail);
    }

    interface CallWith {
        Object on(DovecoteMail mail, int number);
    }

    static final String OUT_OF_BOUNDS = "IndexOutOfBoundsException";
    static final String ARGUMENT = "IllegalArgumentException";
    static final String STATE = "IllegalStateException";

    private final Due due;
    private final Calls calls;
    private final List<String> unchanged;

    Twins(Due due, Calls calls) {
        this.due = due;
        this.calls = calls;
        unchanged = Probe.of(made());
        due.is("", "thrown by the machine itself, where all is asked", this::thrownByMachine);
    }

    private String thrownByMachine() {
        StringBuilder found = new StringBuilder();
        for (String line : unchanged) {
            boolean isOfDocument = line.endsWith("throws." + OUT_OF_BOUNDS) || line.endsWith("throws." + ARGUMENT)
                    || line.endsWith("throws." + STATE);
            if (line.contains("throws.") && !isOfDocument) {
                found.append(line).append("; ");
            }
        }
        return found.toString();
    }

    private DovecoteMail made() {
        DovecoteMail mail = new DovecoteMail();
        calls.on(mail);
        return mail;
    }

    /** What is answered on a new twin. */
    void takes(Object want, String what, Call call) {
        DovecoteMail mail = made();
        due.is(want, what, () -> call.on(mail));
    }

    /** That this very exception is thrown, and that nothing has changed. */
    void refuses(String exception, String what, Call call) {
        DovecoteMail mail = made();
        due.is("throws." + exception, what, () -> call.on(mail));
        due.is("nothing has changed", "after " + what, () -> firstChange(Probe.of(mail)));
    }

    /** That this call, whatever it answers, changes nothing. */
    void keeps(String what, Call call) {
        DovecoteMail mail = made();
        call.on(mail);
        due.is("nothing has changed", "after " + what, () -> firstChange(Probe.of(mail)));
    }

    /** The same of a call with each of these numbers in it. */
    void refusesEach(String exception, String what, int[] numbers, CallWith call) {
        for (int number : numbers) {
            refuses(exception, what + " with " + number, mail -> call.on(mail, number));
        }
    }

    private String firstChange(List<String> told) {
        for (int i = 0; i < told.size() && i < unchanged.size(); i++) {
            if (!told.get(i).equals(unchanged.get(i))) {
                return told.get(i) + ", without that call: " + unchanged.get(i);
            }
        }
        return told.size() == unchanged.size() ? "nothing has changed" : "more or less is told";
    }
}
