import java.util.ArrayList;
import java.util.List;

/** All that one object tells, what it holds but shows late with it: the object is used up by that (some 300 calls). */
final class Probe {

    private static final int FIRST_THAT_IS_NONE = 10000;

    private final DovecoteMail mail;
    private final List<String> told = new ArrayList<>();

    private Probe(DovecoteMail mail) {
        this.mail = mail;
    }

    static List<String> of(DovecoteMail mail) {
        Probe probe = new Probe(mail);
        probe.tell("digest()", mail::digest);
        probe.tell("messages()", mail::messages);
        probe.tell("stamp()", mail::stamp);
        probe.wouldBe();
        probe.searches();
        probe.settings();
        probe.rules();
        probe.next();
        return probe.told;
    }

    private void tell(String what, Due.Call call) {
        told.add(what + " answers " + Due.outcome(call));
    }

    private int firstClockToCome() {
        int least = 0;
        int most = FIRST_THAT_IS_NONE;
        while (least < most) {
            int middle = (least + most) / 2;
            if (isToCome(middle)) {
                most = middle;
            } else {
                least = middle + 1;
            }
        }
        return least;
    }

    private boolean isToCome(int clock) {
        try {
            mail.wouldAge(0, clock);
            return true;
        } catch (IllegalArgumentException e) {
            // Above the last one it is refused, too, but that side is left out by the way it is looked for.
            return clock >= FIRST_THAT_IS_NONE;
        }
    }

    private void wouldBe() {
        int first = firstClockToCome();
        told.add("the first CLOCK to come is " + first);
        for (int person = 0; person < 4; person++) {
            int of = person;
            for (int ticks : new int[] {0, 1, 3, 6, 12, 19, 29, 99, 199}) {
                tell("wouldAge(" + of + ", " + (first + ticks) + ")", () -> mail.wouldAge(of, first + ticks));
            }
            for (int words : new int[] {0, 1, 2, 4, 8, 16, 32, 255}) {
                tell("wouldLie(" + of + ", 4, 9, " + words + ", 30)", () -> mail.wouldLie(of, 4, 9, words, 30));
                tell("wouldLie(" + of + ", 5, 50, " + words + ", 5)", () -> mail.wouldLie(of, 5, 50, words, 5));
            }
            tell("wouldGet from 4", () -> mail.wouldGet(1 << of, 4, 9, 2, 10));
            tell("wouldGet from 5", () -> mail.wouldGet(1 << of, 5, 50, 1, 40));
        }
    }

    private void searches() {
        for (int query = 0; query < 20; query++) {
            int number = query;
            tell("found(0, " + query + ", 0)", () -> mail.found(0, number, 0));
        }
    }

    private void settings() {
        tell("LINGER", () -> mail.setLinger(50, 10));
        for (int person = 0; person < 4; person++) {
            int of = person;
            for (int folder = 0; folder < 8; folder++) {
                int number = folder;
                tell("AGE of " + folder + " of " + of, () -> mail.setAge(of, number, 0));
            }
            tell("QUOTA of " + of, () -> mail.setQuota(of, 2000));
        }
    }

    private void rules() {
        for (int person = 0; person < 4; person++) {
            int of = person;
            for (int rule = 0; rule < 7; rule++) {
                tell("wouldMiss(" + of + ", 0)", () -> mail.wouldMiss(of, 0));
                tell("unrule(" + of + ", 0)", () -> mail.unrule(of, 0));
                if (told.get(told.size() - 1).contains("throws")) {
                    break;
                }
            }
        }
    }

    private void next() {
        tell("query", () -> mail.query(0, 5, 0));
        tell("folder", () -> mail.folder(3, 0));
        tell("rule", () -> mail.rule(3, 4, 0, false, 1, 0, false));
        tell("send", () -> mail.send(5, 15, 50, 1, 1, -1));
        tell("digest() then", mail::digest);
    }
}
