import java.util.ArrayList;
import java.util.List;

/**
 * Each "Throws .. if .." of the document by itself: just inside, just outside, that the exception is the one that is
 * named first, and that nothing has changed.
 */
public final class RefusalsTest {

    private static final int NONE = -1;
    private static final int IN = 0;
    private static final int BIN = 1;
    private static final int FAR = Integer.MAX_VALUE;
    private static final int LOW = Integer.MIN_VALUE;

    private static final String OUT_OF_BOUNDS = Twins.OUT_OF_BOUNDS;
    private static final String ARGUMENT = Twins.ARGUMENT;
    private static final String STATE = Twins.STATE;

    private static final String NO_PERSON = "there is no such PERSON";
    private static final String NO_FOLDER = "there is no such PERSON, or FOLDER in the BOX";
    private static final String NO_COPY = "there is no such PERSON, or no COPY of that MESSAGE in the BOX";
    private static final String NO_RULE = "there is no such PERSON, or RULE";
    private static final String NO_CLOCK = "clock is not above the CLOCK, or above 9999";

    private static final int[] NO_PEOPLE = {-1, 4, FAR, LOW};

    /** FROM, SUBJECT, WORDS, SIZE: each row has one that is just outside. */
    private static final int[][] NO_LETTERS = {{-1, 0, 0, 1}, {10, 99, 255, 50}, {0, -1, 0, 1}, {9, 100, 255, 50},
        {0, 0, -1, 1}, {9, 99, 256, 50}, {0, 0, 0, 0}, {9, 99, 255, 51}, {LOW, 0, 0, 1}, {FAR, 0, 0, 1},
        {0, LOW, 0, 1}, {0, FAR, 0, 1}, {0, 0, LOW, 1}, {0, 0, FAR, 1}, {0, 0, 0, LOW}, {0, 0, 0, FAR}};

    private static final Due DUE = new Due();
    private static final Twins NEW = new Twins(DUE, mail -> { });
    private static final Twins SOME = new Twins(DUE, RefusalsTest::some);
    private static final Twins FULL = new Twins(DUE, RefusalsTest::full);

    private static final List<String> quoted = new ArrayList<>();

    public static void main(String[] args) throws Exception {
        folders();
        rules();
        messages();
        copies();
        threadsAndSearches();
        whatWouldBe();
        DUE.about("Throws .. if ..");
        Document document = new Document();
        if (document.isThere()) {
            DUE.is(document.refusals(), "each of the document's, quoted in its order", () -> quoted);
        }
        DUE.end("RefusalsTest");
    }

    private static void about(String promise, String exception, String when) {
        String sentence = "Promise " + promise + ": Throws `" + exception + "` if " + when;
        quoted.add(sentence);
        DUE.about(sentence);
    }

    /**
     * The CLOCK is 7. PERSON 0 has 6 FOLDERS (5 in IN, 4 in 3 in 2 in IN) and 3 RULES, 1 has 3 and 1, 2 has 8 (each
     * in the one before) and 6, 3 has 2 and none; there are 4 QUERIES and 5 MESSAGES.
     */
    private static void some(DovecoteMail mail) {
        int[] parents = {IN, 2, 3, IN};
        for (int parent : parents) {
            mail.folder(0, parent);
        }
        mail.folder(1, IN);
        for (int folder = 2; folder < 8; folder++) {
            mail.folder(2, folder == 2 ? IN : folder - 1);
            mail.rule(2, 2, folder - 2, false, 0, folder, false);
        }
        mail.setAge(0, IN, 30);
        mail.setAge(0, 2, 5);
        mail.setAge(1, BIN, 9);
        mail.setAge(2, 7, 200);
        mail.setQuota(0, 300);
        mail.setQuota(1, 45);
        mail.setQuota(3, 2000);
        mail.setLinger(7, 3);
        mail.rule(0, 1, 9, false, 0, 3, false);
        mail.rule(0, 2, 1, false, 1, 0, false);
        mail.rule(0, 0, 4, true, 3, 2, true);
        mail.rule(1, 3, 30, false, 4, 0, false);
        mail.query(5, IN, 0);
        mail.query(3, 10, 0);
        mail.query(8, 0, 1);
        mail.query(7, 2, 0);
        someMessages(mail);
    }

    /** PERSON 3 has not got 1, 3 and 4, and 2 is GONE there; 1 has thrown away 2, and 3 was REFUSED there. */
    private static void someMessages(DovecoteMail mail) {
        mail.send(4, 15, 9, 2, 10, NONE);
        mail.send(5, 3, 9, 0, 20, 0);
        mail.setClock(3);
        mail.send(6, 11, 50, 0, 40, 1);
        mail.send(4, 2, 50, 0, 20, NONE);
        mail.setClock(7);
        mail.send(7, 5, 9, 255, 5, 3);
        mail.mark(3, 0, 0, true);
        mail.mark(0, 2, 1, true);
        mail.move(0, 1, BIN);
        mail.move(3, 2, BIN);
        mail.empty(3, BIN);
    }

    /** 60 MESSAGES and 20 QUERIES; the CLOCK is 9999. */
    private static void full(DovecoteMail mail) {
        mail.setQuota(0, 25);
        for (int i = 0; i < 59; i++) {
            mail.send(i % 10, i % 16, i % 7, i, 1, i - 1);
        }
        mail.query(6, 1, 0);
        for (int i = 1; i < 20; i++) {
            mail.query(i % 2 + 7, i - 1, 0);
        }
        mail.setClock(9999);
        mail.send(0, 15, 1, 3, 1, NONE);
    }

    // ---- folders

    private static void folders() {
        folder();
        nest();
        setAge();
        setQuota();
        setLinger();
    }

    private static void folder() {
        about("2: folder", OUT_OF_BOUNDS, NO_FOLDER);
        SOME.takes(6, "folder(0, 5)", mail -> mail.folder(0, 5));
        SOME.takes(2, "folder(3, IN)", mail -> mail.folder(3, IN));
        SOME.refusesEach(OUT_OF_BOUNDS, "folder of no PERSON", NO_PEOPLE, (mail, n) -> mail.folder(n, IN));
        SOME.refusesEach(OUT_OF_BOUNDS, "folder of no PERSON in the BIN", NO_PEOPLE, (mail, n) -> mail.folder(n, BIN));
        SOME.refusesEach(OUT_OF_BOUNDS, "folder in none", new int[] {6, 7, 8, -1, FAR, LOW}, (mail, n) -> mail.folder(0, n));
        SOME.refuses(OUT_OF_BOUNDS, "folder in one of another BOX", mail -> mail.folder(3, 2));
        SOME.refusesEach(OUT_OF_BOUNDS, "a ninth in none", new int[] {8, -1, FAR, LOW}, (mail, n) -> mail.folder(2, n));
        about("2: folder", ARGUMENT, "parent is the BIN");
        SOME.takes(6, "folder(0, IN)", mail -> mail.folder(0, IN));
        SOME.takes(6, "folder(0, 2)", mail -> mail.folder(0, 2));
        SOME.refuses(ARGUMENT, "folder in the BIN", mail -> mail.folder(0, BIN));
        SOME.refuses(ARGUMENT, "a ninth in the BIN", mail -> mail.folder(2, BIN));
        about("2: folder", STATE, "there are 8");
        SOME.takes("6 7 8", "the last two", mail -> mail.folder(0, 4) + " " + mail.folder(0, 6) + " " + mail.folders(0));
        SOME.refuses(STATE, "a ninth in IN", mail -> mail.folder(2, IN));
        SOME.refuses(STATE, "a ninth in the last one", mail -> mail.folder(2, 7));
    }

    private static void nest() {
        about("3: nest", OUT_OF_BOUNDS, NO_FOLDER);
        SOME.takes(0, "nest(0, 5, 4), the last FOLDER", mail -> mail.nest(0, 5, 4));
        SOME.takes(3, "nest(0, 4, 5), in the last FOLDER", mail -> mail.nest(0, 4, 5));
        SOME.refusesEach(OUT_OF_BOUNDS, "nest of no PERSON", NO_PEOPLE, (mail, n) -> mail.nest(n, 2, IN));
        SOME.refusesEach(OUT_OF_BOUNDS, "nest IN of no PERSON", NO_PEOPLE, (mail, n) -> mail.nest(n, IN, BIN));
        int[] none = {6, 8, -1, FAR, LOW};
        SOME.refusesEach(OUT_OF_BOUNDS, "nest none in IN", none, (mail, n) -> mail.nest(0, n, IN));
        SOME.refusesEach(OUT_OF_BOUNDS, "nest none in the BIN", none, (mail, n) -> mail.nest(0, n, BIN));
        SOME.refusesEach(OUT_OF_BOUNDS, "nest none in itself", none, (mail, n) -> mail.nest(0, n, n));
        SOME.refusesEach(OUT_OF_BOUNDS, "nest in none", none, (mail, n) -> mail.nest(0, 5, n));
        SOME.refusesEach(OUT_OF_BOUNDS, "nest IN in none", none, (mail, n) -> mail.nest(0, IN, n));
        SOME.refusesEach(OUT_OF_BOUNDS, "nest the BIN in none", none, (mail, n) -> mail.nest(0, BIN, n));
        SOME.refuses(OUT_OF_BOUNDS, "nest one of another BOX", mail -> mail.nest(1, 3, IN));
        SOME.refuses(OUT_OF_BOUNDS, "nest in one of another BOX", mail -> mail.nest(1, 2, 3));
        about("3: nest", ARGUMENT, "folder is IN or the BIN, or parent is the BIN, folder itself, or BELOW it");
        SOME.takes("0 0", "nest(0, 2, IN), where it is", mail -> mail.nest(0, 2, IN) + " " + mail.ofFolder(0, 2, 0));
        SOME.takes("0 5", "nest(0, 2, 5), beside it", mail -> mail.nest(0, 2, 5) + " " + mail.ofFolder(0, 2, 0));
        SOME.takes("3 2", "nest(0, 4, 2), above it", mail -> mail.nest(0, 4, 2) + " " + mail.ofFolder(0, 4, 0));
        SOME.takes("6 0", "nest(2, 7, IN), far above it", mail -> mail.nest(2, 7, IN) + " " + mail.ofFolder(2, 7, 0));
        SOME.takes("3 0 4", "not BELOW it any more",
                mail -> mail.nest(0, 4, IN) + " " + mail.nest(0, 2, 4) + " " + mail.ofFolder(0, 2, 0));
        SOME.refusesEach(ARGUMENT, "nest IN", new int[] {IN, BIN, 2, 5}, (mail, n) -> mail.nest(0, IN, n));
        SOME.refusesEach(ARGUMENT, "nest the BIN", new int[] {IN, BIN, 2, 5}, (mail, n) -> mail.nest(0, BIN, n));
        SOME.refusesEach(ARGUMENT, "nest in the BIN", new int[] {2, 4, 5}, (mail, n) -> mail.nest(0, n, BIN));
        SOME.refusesEach(ARGUMENT, "nest in itself", new int[] {2, 4, 5}, (mail, n) -> mail.nest(0, n, n));
        SOME.refusesEach(ARGUMENT, "nest BELOW it", new int[] {3, 4}, (mail, n) -> mail.nest(0, 2, n));
        SOME.refusesEach(ARGUMENT, "nest far BELOW it", new int[] {3, 4, 5, 6, 7}, (mail, n) -> mail.nest(2, 2, n));
    }

    private static void setAge() {
        about("4: setAge", OUT_OF_BOUNDS, NO_FOLDER);
        SOME.takes("0 1", "the last FOLDER", mail -> mail.setAge(0, 5, 1) + " " + mail.setAge(0, 5, 2));
        SOME.takes("200 1", "the last one of all", mail -> mail.setAge(2, 7, 1) + " " + mail.setAge(2, 7, 2));
        SOME.refusesEach(OUT_OF_BOUNDS, "setAge of no PERSON", NO_PEOPLE, (mail, n) -> mail.setAge(n, IN, 1));
        SOME.refusesEach(OUT_OF_BOUNDS, "setAge of no PERSON", NO_PEOPLE, (mail, n) -> mail.setAge(n, IN, 201));
        int[] none = {6, 8, -1, FAR, LOW};
        SOME.refusesEach(OUT_OF_BOUNDS, "setAge of none", none, (mail, n) -> mail.setAge(0, n, 1));
        SOME.refusesEach(OUT_OF_BOUNDS, "setAge -1 of none", none, (mail, n) -> mail.setAge(0, n, -1));
        SOME.refuses(OUT_OF_BOUNDS, "setAge of one of another BOX", mail -> mail.setAge(1, 5, 201));
        about("4: setAge", ARGUMENT, "age is not 0 to 200");
        SOME.takes("5 200 0", "to each end",
                mail -> mail.setAge(0, 2, 200) + " " + mail.setAge(0, 2, 0) + " " + mail.setAge(0, 2, 7));
        SOME.refusesEach(ARGUMENT, "setAge", new int[] {-1, 201, FAR, LOW}, (mail, n) -> mail.setAge(0, 2, n));
        SOME.refusesEach(ARGUMENT, "setAge of the BIN", new int[] {-1, 201}, (mail, n) -> mail.setAge(1, BIN, n));
    }

    private static void setQuota() {
        about("5: setQuota", OUT_OF_BOUNDS, NO_PERSON);
        SOME.takes("300 1", "of 0", mail -> mail.setQuota(0, 1) + " " + mail.setQuota(0, 2));
        SOME.takes("2000 1", "of 3", mail -> mail.setQuota(3, 1) + " " + mail.setQuota(3, 2));
        SOME.refusesEach(OUT_OF_BOUNDS, "setQuota of no PERSON", NO_PEOPLE, (mail, n) -> mail.setQuota(n, 1));
        SOME.refusesEach(OUT_OF_BOUNDS, "setQuota 0 of no PERSON", NO_PEOPLE, (mail, n) -> mail.setQuota(n, 0));
        about("5: setQuota", ARGUMENT, "quota is not 1 to 2000");
        SOME.takes("300 2000 1", "to each end",
                mail -> mail.setQuota(0, 2000) + " " + mail.setQuota(0, 1) + " " + mail.setQuota(0, 7));
        SOME.refusesEach(ARGUMENT, "setQuota", new int[] {0, -1, 2001, FAR, LOW}, (mail, n) -> mail.setQuota(0, n));
    }

    private static void setLinger() {
        about("6: setLinger", ARGUMENT, "linger is not 1 to 100, or window is not 0 to 50");
        SOME.takes("7 100 1", "to each end of both",
                mail -> mail.setLinger(100, 50) + " " + mail.setLinger(1, 0) + " " + mail.setLinger(2, 0));
        SOME.takes("7 100 1", "to each end of both, crosswise",
                mail -> mail.setLinger(100, 0) + " " + mail.setLinger(1, 50) + " " + mail.setLinger(2, 0));
        // 0 and 1 are 3 ticks apart, 1 and 2 are 4: another WINDOW than 3 would tell another number of THREADS.
        Twins window = new Twins(DUE, mail -> {
            mail.setLinger(7, 3);
            mail.send(0, 1, 5, 0, 1, NONE);
            mail.setClock(3);
            mail.send(0, 1, 5, 0, 1, NONE);
            mail.setClock(7);
            mail.send(0, 1, 5, 0, 1, NONE);
        });
        window.takes(2, "threads(0)", mail -> mail.threads(0));
        window.refusesEach(ARGUMENT, "linger", new int[] {0, -1, 101, FAR, LOW}, (mail, n) -> mail.setLinger(n, 9));
        window.refusesEach(ARGUMENT, "window", new int[] {-1, 51, FAR, LOW}, (mail, n) -> mail.setLinger(9, n));
        window.refuses(ARGUMENT, "both", mail -> mail.setLinger(0, 51));
    }

    // ---- rules

    private static void rules() {
        rule();
        unrule();
        foldersOfPerson();
        ofFolder();
    }

    private static void rule() {
        about("7: rule", OUT_OF_BOUNDS, NO_PERSON);
        SOME.takes(4, "rule of 0", mail -> mail.rule(0, 4, 0, false, 1, 0, false));
        SOME.takes(1, "rule of 3", mail -> mail.rule(3, 4, 0, false, 1, 0, false));
        SOME.refusesEach(OUT_OF_BOUNDS, "rule of no PERSON", NO_PEOPLE,
                (mail, n) -> mail.rule(n, 4, 0, false, 1, 0, false));
        SOME.refusesEach(OUT_OF_BOUNDS, "rule of no PERSON, wrong", NO_PEOPLE,
                (mail, n) -> mail.rule(n, 5, 0, false, 5, 0, false));
        SOME.refusesEach(OUT_OF_BOUNDS, "rule of no PERSON, puts", NO_PEOPLE,
                (mail, n) -> mail.rule(n, 4, 0, false, 0, IN, false));
        SOME.refusesEach(OUT_OF_BOUNDS, "rule of no PERSON, goes on to it", NO_PEOPLE,
                (mail, n) -> mail.rule(n, 4, 0, false, 3, n, false));
        about("7: rule", ARGUMENT, "asks is not 0 to 4, a is not 0 to 9 with 0, 0 to 99 with 1, 0 to 7 with 2, or 1 to 50"
                + " with 3, does is not 0 to 4, b is no FOLDER of the BOX with 0, or no other PERSON with 3");
        ruleAsks();
        ruleDoes();
        about("7: rule", STATE, "there are 6");
        SOME.takes("4 5 6", "the last three", mail -> mail.rule(0, 4, 0, false, 1, 0, false) + " "
                + mail.rule(0, 4, 0, false, 1, 0, false) + " " + mail.rule(0, 4, 0, false, 1, 0, false));
        SOME.takes("5 6", "one was taken away", mail -> mail.unrule(2, 5) + " " + mail.rule(2, 4, 0, false, 1, 0, false));
        SOME.refuses(STATE, "a seventh", mail -> mail.rule(2, 4, 0, false, 1, 0, false));
        SOME.refuses(STATE, "a seventh that puts", mail -> mail.rule(2, 3, 50, true, 0, 7, true));
    }

    private static void ruleAsks() {
        int[][] inside = {{0, 0}, {0, 9}, {1, 0}, {1, 99}, {2, 0}, {2, 7}, {3, 1}, {3, 50}, {4, 0}, {4, LOW}, {4, FAR}};
        for (int[] row : inside) {
            String what = "asks " + row[0] + ", a " + row[1];
            SOME.takes(4, what, mail -> mail.rule(0, row[0], row[1], true, 1, 0, false));
        }
        int[][] outside = {{-1, 1}, {5, 1}, {LOW, 1}, {FAR, 1}, {0, -1}, {0, 10}, {0, LOW}, {0, FAR}, {1, -1}, {1, 100},
            {1, LOW}, {1, FAR}, {2, -1}, {2, 8}, {2, LOW}, {2, FAR}, {3, 0}, {3, 51}, {3, -1}, {3, LOW}, {3, FAR}};
        for (int[] row : outside) {
            String what = "asks " + row[0] + ", a " + row[1];
            SOME.refuses(ARGUMENT, what, mail -> mail.rule(0, row[0], row[1], false, 1, 0, false));
            SOME.refuses(ARGUMENT, "a seventh, " + what, mail -> mail.rule(2, row[0], row[1], false, 1, 0, false));
        }
    }

    private static void ruleDoes() {
        int[][] inside = {{0, IN}, {0, BIN}, {0, 5}, {1, LOW}, {1, FAR}, {2, LOW}, {2, FAR}, {3, 1}, {3, 3}, {4, LOW},
            {4, FAR}};
        for (int[] row : inside) {
            String what = "does " + row[0] + ", b " + row[1];
            SOME.takes(4, what, mail -> mail.rule(0, 4, 0, false, row[0], row[1], false));
        }
        SOME.takes(1, "3 goes on to 0", mail -> mail.rule(3, 4, 0, false, 3, 0, false));
        SOME.takes(1, "3 goes on to 2", mail -> mail.rule(3, 4, 0, false, 3, 2, false));
        int[][] outside = {{-1, 1}, {5, 1}, {LOW, 1}, {FAR, 1}, {0, -1}, {0, 6}, {0, LOW}, {0, FAR}, {3, 0}, {3, -1},
            {3, 4}, {3, LOW}, {3, FAR}};
        for (int[] row : outside) {
            String what = "does " + row[0] + ", b " + row[1];
            SOME.refuses(ARGUMENT, what, mail -> mail.rule(0, 4, 0, false, row[0], row[1], false));
        }
        SOME.refuses(ARGUMENT, "puts into a FOLDER of another BOX", mail -> mail.rule(3, 4, 0, false, 0, 2, false));
        SOME.refuses(ARGUMENT, "3 goes on to itself", mail -> mail.rule(3, 4, 0, false, 3, 3, false));
        SOME.refuses(ARGUMENT, "a seventh, does 5", mail -> mail.rule(2, 4, 0, false, 5, 0, false));
        SOME.refuses(ARGUMENT, "a seventh, puts into none", mail -> mail.rule(2, 4, 0, false, 0, 8, false));
        SOME.refuses(ARGUMENT, "a seventh, goes on to itself", mail -> mail.rule(2, 4, 0, false, 3, 2, false));
    }

    private static void unrule() {
        about("8: unrule", OUT_OF_BOUNDS, NO_RULE);
        SOME.takes(2, "the last RULE", mail -> mail.unrule(0, 2));
        SOME.takes("2 1 0", "each of them",
                mail -> mail.unrule(0, 0) + " " + mail.unrule(0, 0) + " " + mail.unrule(0, 0));
        SOME.takes(5, "the last of 6", mail -> mail.unrule(2, 5));
        SOME.refusesEach(OUT_OF_BOUNDS, "unrule of no PERSON", NO_PEOPLE, (mail, n) -> mail.unrule(n, 0));
        SOME.refusesEach(OUT_OF_BOUNDS, "unrule", new int[] {3, 5, 6, -1, FAR, LOW}, (mail, n) -> mail.unrule(0, n));
        SOME.refusesEach(OUT_OF_BOUNDS, "unrule of 6", new int[] {6, -1, FAR, LOW}, (mail, n) -> mail.unrule(2, n));
        SOME.refusesEach(OUT_OF_BOUNDS, "unrule without any", new int[] {0, -1}, (mail, n) -> mail.unrule(3, n));
    }

    private static void foldersOfPerson() {
        about("9: folders", OUT_OF_BOUNDS, NO_PERSON);
        SOME.takes("6 2", "of 0 and 3", mail -> mail.folders(0) + " " + mail.folders(3));
        SOME.refusesEach(OUT_OF_BOUNDS, "folders of no PERSON", NO_PEOPLE, (mail, n) -> mail.folders(n));
    }

    private static void ofFolder() {
        about("10: ofFolder", OUT_OF_BOUNDS, NO_FOLDER);
        SOME.takes(0, "ofFolder(0, 5, 0), the last FOLDER", mail -> mail.ofFolder(0, 5, 0));
        SOME.takes(6, "ofFolder(2, 7, 0), the last one of all", mail -> mail.ofFolder(2, 7, 0));
        SOME.refusesEach(OUT_OF_BOUNDS, "ofFolder of no PERSON", NO_PEOPLE, (mail, n) -> mail.ofFolder(n, IN, 0));
        SOME.refusesEach(OUT_OF_BOUNDS, "ofFolder of no PERSON, 6", NO_PEOPLE, (mail, n) -> mail.ofFolder(n, IN, 6));
        int[] none = {6, 8, -1, FAR, LOW};
        SOME.refusesEach(OUT_OF_BOUNDS, "ofFolder of none", none, (mail, n) -> mail.ofFolder(0, n, 0));
        SOME.refusesEach(OUT_OF_BOUNDS, "ofFolder of none, -1", none, (mail, n) -> mail.ofFolder(0, n, -1));
        SOME.refuses(OUT_OF_BOUNDS, "ofFolder of one of another BOX", mail -> mail.ofFolder(1, 3, 6));
        about("10: ofFolder", ARGUMENT, "what is not 0 to 5");
        SOME.takes("0 2", "to each end", mail -> mail.ofFolder(0, 2, 0) + " " + mail.ofFolder(0, 2, 5));
        SOME.refusesEach(ARGUMENT, "ofFolder", new int[] {-1, 6, FAR, LOW}, (mail, n) -> mail.ofFolder(0, 2, n));
    }

    // ---- messages

    private static void messages() {
        send();
        setClock();
    }

    private static void send() {
        about("11: send", OUT_OF_BOUNDS, "there is no such MESSAGE (but NONE)");
        SOME.takes(5, "ANSWERS the latest", mail -> mail.send(0, 1, 0, 0, 1, 4));
        SOME.takes(5, "ANSWERS the first", mail -> mail.send(0, 1, 0, 0, 1, 0));
        SOME.takes(5, "ANSWERS none", mail -> mail.send(0, 1, 0, 0, 1, NONE));
        int[] none = {5, 6, 60, -2, FAR, LOW};
        SOME.refusesEach(OUT_OF_BOUNDS, "ANSWERS", none, (mail, n) -> mail.send(0, 1, 0, 0, 1, n));
        SOME.refusesEach(OUT_OF_BOUNDS, "FROM 10, ANSWERS", none, (mail, n) -> mail.send(10, 1, 0, 0, 1, n));
        SOME.refusesEach(OUT_OF_BOUNDS, "all wrong, ANSWERS", none, (mail, n) -> mail.send(-1, 16, -1, 256, 0, n));
        NEW.refuses(OUT_OF_BOUNDS, "the first one ANSWERS itself", mail -> mail.send(0, 1, 0, 0, 1, 0));
        FULL.refusesEach(OUT_OF_BOUNDS, "the 61st, ANSWERS", new int[] {60, -2}, (mail, n) -> mail.send(0, 1, 0, 0, 1, n));
        about("11: send", ARGUMENT, "from is not 0 to 9, to is not 0 to 15, subject is not 0 to 99, words is not 0 to 255,"
                + " or size is not 1 to 50");
        SOME.takes(5, "all at the lower end", mail -> mail.send(0, 0, 0, 0, 1, NONE));
        SOME.takes(5, "all at the upper end", mail -> mail.send(9, 15, 99, 255, 50, NONE));
        for (int[] row : NO_LETTERS) {
            String what = "FROM, SUBJECT, WORDS, SIZE " + told(row);
            SOME.refuses(ARGUMENT, what, mail -> mail.send(row[0], 1, row[1], row[2], row[3], NONE));
            FULL.refuses(ARGUMENT, "the 61st, " + what, mail -> mail.send(row[0], 1, row[1], row[2], row[3], 59));
        }
        int[] none2 = {-1, 16, FAR, LOW};
        SOME.refusesEach(ARGUMENT, "TO", none2, (mail, n) -> mail.send(0, n, 0, 0, 1, NONE));
        FULL.refusesEach(ARGUMENT, "the 61st, TO", none2, (mail, n) -> mail.send(0, n, 0, 0, 1, NONE));
        about("11: send", STATE, "there were 60");
        Twins almost = new Twins(DUE, mail -> {
            for (int i = 0; i < 59; i++) {
                mail.send(0, i % 16, 0, 0, 1, NONE);
            }
        });
        almost.takes("59 60", "the 60th", mail -> mail.send(0, 1, 0, 0, 1, 58) + " " + mail.messages());
        FULL.refuses(STATE, "the 61st", mail -> mail.send(0, 1, 0, 0, 1, NONE));
        FULL.refuses(STATE, "the 61st, ANSWERS the last", mail -> mail.send(9, 15, 99, 255, 50, 59));
        FULL.refuses(STATE, "the 61st, to nobody", mail -> mail.send(0, 0, 0, 0, 1, NONE));
    }

    private static String told(int[] row) {
        StringBuilder text = new StringBuilder();
        for (int number : row) {
            text.append(number).append(' ');
        }
        return text.toString();
    }

    private static void setClock() {
        about("12: setClock", ARGUMENT, NO_CLOCK);
        NEW.takes(0, "setClock(1)", mail -> mail.setClock(1));
        NEW.refusesEach(ARGUMENT, "setClock", new int[] {0, -1, LOW, 10000, FAR}, (mail, n) -> mail.setClock(n));
        SOME.takes(0, "setClock(8)", mail -> mail.setClock(8));
        SOME.takes(1, "setClock(9999)", mail -> mail.setClock(9999));
        SOME.refusesEach(ARGUMENT, "setClock", new int[] {7, 6, 0, -1, LOW, 10000, FAR}, (mail, n) -> mail.setClock(n));
        FULL.refusesEach(ARGUMENT, "setClock", new int[] {9999, 10000, 9998, 0, FAR, LOW}, (mail, n) -> mail.setClock(n));
    }

    // ---- copies

    private static void copies() {
        mark();
        move();
        empty();
        copy();
        at();
        about("19: full", OUT_OF_BOUNDS, NO_PERSON);
        SOME.takes("75 10", "of 0 and 3", mail -> mail.full(0) + " " + mail.full(3));
        SOME.refusesEach(OUT_OF_BOUNDS, "full of no PERSON", NO_PEOPLE, (mail, n) -> mail.full(n));
        about("20: bounces", OUT_OF_BOUNDS, "there is no such ADDRESS");
        SOME.takes("0 1 0", "of 0, 4 and 9", mail -> mail.bounces(0) + " " + mail.bounces(4) + " " + mail.bounces(9));
        SOME.refusesEach(OUT_OF_BOUNDS, "bounces", new int[] {-1, 10, FAR, LOW}, (mail, n) -> mail.bounces(n));
        since();
    }

    /** PERSON 0 has not got 3, it was REFUSED by 1, who threw 2 away; 3 has not got 1, and 2 is GONE there; none is 5. */
    private static void refusesWithoutCopy(String what, CallOfCopy call) {
        int[][] none = {{0, 3}, {1, 3}, {1, 2}, {3, 1}, {3, 2}, {0, 5}, {0, 60}, {0, -1}, {0, FAR}, {0, LOW}};
        for (int[] row : none) {
            SOME.refuses(OUT_OF_BOUNDS, what + " of " + row[0] + ", MESSAGE " + row[1],
                    mail -> call.on(mail, row[0], row[1]));
        }
        SOME.refusesEach(OUT_OF_BOUNDS, what + " of no PERSON", NO_PEOPLE, (mail, n) -> call.on(mail, n, 0));
        SOME.refusesEach(OUT_OF_BOUNDS, what + " of no PERSON, no MESSAGE", NO_PEOPLE, (mail, n) -> call.on(mail, n, 5));
        NEW.refuses(OUT_OF_BOUNDS, what + " without any MESSAGE", mail -> call.on(mail, 0, 0));
    }

    private interface CallOfCopy {
        Object on(DovecoteMail mail, int person, int message);
    }

    private static void mark() {
        about("13: mark", OUT_OF_BOUNDS, NO_COPY);
        SOME.takes(false, "mark(0, 4, 0, true), the latest MESSAGE", mail -> mail.mark(0, 4, 0, true));
        SOME.takes(true, "mark(3, 0, 0, true), the first one", mail -> mail.mark(3, 0, 0, true));
        refusesWithoutCopy("mark", (mail, person, message) -> mail.mark(person, message, 0, true));
        refusesWithoutCopy("mark 2", (mail, person, message) -> mail.mark(person, message, 2, true));
        about("13: mark", ARGUMENT, "mark is neither");
        SOME.takes("false true", "SEEN and STARRED",
                mail -> mail.mark(0, 2, 0, true) + " " + mail.mark(0, 2, 1, false));
        SOME.refusesEach(ARGUMENT, "mark", new int[] {-1, 2, 3, 31, 32, 33, FAR, LOW},
                (mail, n) -> mail.mark(0, 2, n, true));
        SOME.refusesEach(ARGUMENT, "mark off", new int[] {-1, 2, 32, 33}, (mail, n) -> mail.mark(0, 2, n, false));
    }

    private static void move() {
        about("14: move", OUT_OF_BOUNDS, "there is no such PERSON, or no COPY of that MESSAGE in the BOX, or no such FOLDER");
        SOME.takes(1, "move(0, 4, 5), the latest MESSAGE, the last FOLDER", mail -> mail.move(0, 4, 5));
        SOME.takes(2, "move(3, 0, BIN)", mail -> mail.move(3, 0, BIN));
        SOME.takes(2, "move(2, 0, 7), the last one of all", mail -> mail.move(2, 0, 7));
        refusesWithoutCopy("move", (mail, person, message) -> mail.move(person, message, IN));
        refusesWithoutCopy("move to none", (mail, person, message) -> mail.move(person, message, 8));
        SOME.refusesEach(OUT_OF_BOUNDS, "move to", new int[] {6, 7, 8, -1, FAR, LOW}, (mail, n) -> mail.move(0, 0, n));
        SOME.refuses(OUT_OF_BOUNDS, "move to one of another BOX", mail -> mail.move(3, 0, 2));
    }

    private static void empty() {
        about("15: empty", OUT_OF_BOUNDS, NO_FOLDER);
        SOME.takes(0, "empty(0, 5), the last FOLDER", mail -> mail.empty(0, 5));
        SOME.takes(1, "empty(2, 7), the last one of all", mail -> mail.empty(2, 7));
        SOME.refusesEach(OUT_OF_BOUNDS, "empty of no PERSON", NO_PEOPLE, (mail, n) -> mail.empty(n, IN));
        SOME.refusesEach(OUT_OF_BOUNDS, "empty the BIN of no PERSON", NO_PEOPLE, (mail, n) -> mail.empty(n, BIN));
        SOME.refusesEach(OUT_OF_BOUNDS, "empty", new int[] {6, 7, 8, -1, FAR, LOW}, (mail, n) -> mail.empty(0, n));
        SOME.refuses(OUT_OF_BOUNDS, "empty one of another BOX", mail -> mail.empty(3, 2));
    }

    private static void copy() {
        about("17: copy", OUT_OF_BOUNDS, "there is no such PERSON, or MESSAGE");
        SOME.takes("1 0", "the latest MESSAGE", mail -> mail.copy(0, 4, 0) + " " + mail.copy(3, 4, 0));
        SOME.takes("1 1", "the first one", mail -> mail.copy(0, 0, 0) + " " + mail.copy(3, 0, 0));
        SOME.refusesEach(OUT_OF_BOUNDS, "copy of no PERSON", NO_PEOPLE, (mail, n) -> mail.copy(n, 0, 0));
        SOME.refusesEach(OUT_OF_BOUNDS, "copy of no PERSON, 5", NO_PEOPLE, (mail, n) -> mail.copy(n, 0, 5));
        int[] none = {5, 59, 60, -1, FAR, LOW};
        SOME.refusesEach(OUT_OF_BOUNDS, "copy", none, (mail, n) -> mail.copy(0, n, 0));
        SOME.refusesEach(OUT_OF_BOUNDS, "copy, -1", none, (mail, n) -> mail.copy(0, n, -1));
        NEW.refuses(OUT_OF_BOUNDS, "copy without any MESSAGE", mail -> mail.copy(0, 0, 0));
        FULL.takes(1, "the 60th", mail -> mail.copy(3, 59, 0));
        FULL.refuses(OUT_OF_BOUNDS, "the 61st", mail -> mail.copy(3, 60, 0));
        about("17: copy", ARGUMENT, "what is not 0 to 4");
        SOME.takes("1 3", "to each end", mail -> mail.copy(2, 0, 0) + " " + mail.copy(2, 0, 4));
        SOME.refusesEach(ARGUMENT, "copy", new int[] {-1, 5, FAR, LOW}, (mail, n) -> mail.copy(0, 0, n));
        SOME.refusesEach(ARGUMENT, "copy of one not got", new int[] {-1, 5}, (mail, n) -> mail.copy(3, 4, n));
    }

    private static void at() {
        about("18: at", OUT_OF_BOUNDS, "there is no such PERSON, or FOLDER in the BOX, or place in it");
        SOME.takes("0 4", "both places", mail -> mail.at(0, 3, 0) + " " + mail.at(0, 3, 1));
        SOME.takes(4, "the last FOLDER of all", mail -> mail.at(2, 7, 0));
        SOME.refusesEach(OUT_OF_BOUNDS, "at of no PERSON", NO_PEOPLE, (mail, n) -> mail.at(n, IN, 0));
        SOME.refusesEach(OUT_OF_BOUNDS, "at", new int[] {6, 7, 8, -1, FAR, LOW}, (mail, n) -> mail.at(0, n, 0));
        SOME.refusesEach(OUT_OF_BOUNDS, "at(0, 3)", new int[] {2, 3, -1, FAR, LOW}, (mail, n) -> mail.at(0, 3, n));
        SOME.refusesEach(OUT_OF_BOUNDS, "at of an empty one", new int[] {0, -1}, (mail, n) -> mail.at(0, 5, n));
        SOME.refuses(OUT_OF_BOUNDS, "at of one of another BOX", mail -> mail.at(3, 2, 0));
    }

    private static void since() {
        about("22: since", OUT_OF_BOUNDS, NO_FOLDER);
        SOME.takes("0 1", "the last FOLDERS", mail -> mail.since(0, 5, 0) + " " + mail.since(2, 7, 0));
        SOME.refusesEach(OUT_OF_BOUNDS, "since of no PERSON", NO_PEOPLE, (mail, n) -> mail.since(n, IN, 0));
        SOME.refusesEach(OUT_OF_BOUNDS, "since", new int[] {6, 7, 8, -1, FAR, LOW}, (mail, n) -> mail.since(0, n, 0));
        SOME.refuses(OUT_OF_BOUNDS, "since of one of another BOX", mail -> mail.since(3, 2, 0));
    }

    // ---- threads, searches

    private static void threadsAndSearches() {
        about("23: threads", OUT_OF_BOUNDS, NO_PERSON);
        SOME.takes("2 1", "of 0 and 3", mail -> mail.threads(0) + " " + mail.threads(3));
        SOME.refusesEach(OUT_OF_BOUNDS, "threads of no PERSON", NO_PEOPLE, (mail, n) -> mail.threads(n));
        ofThread();
        query();
        finds();
        found();
        about("28: meanSize", OUT_OF_BOUNDS, NO_PERSON);
        SOME.takes("18.75 10.0", "of 0 and 3", mail -> mail.meanSize(0) + " " + mail.meanSize(3));
        SOME.refusesEach(OUT_OF_BOUNDS, "meanSize of no PERSON", NO_PEOPLE, (mail, n) -> mail.meanSize(n));
    }

    private static void ofThread() {
        about("24: ofThread", OUT_OF_BOUNDS, NO_COPY);
        SOME.takes(0, "the first MESSAGE", mail -> mail.ofThread(3, 0, 0));
        SOME.takes(1, "the latest one", mail -> mail.ofThread(2, 4, 1));
        refusesWithoutCopy("ofThread", (mail, person, message) -> mail.ofThread(person, message, 0));
        refusesWithoutCopy("ofThread 4", (mail, person, message) -> mail.ofThread(person, message, 4));
        about("24: ofThread", ARGUMENT, "what is not 0 to 3");
        SOME.takes("0 2", "to each end", mail -> mail.ofThread(0, 2, 0) + " " + mail.ofThread(0, 2, 3));
        SOME.refusesEach(ARGUMENT, "ofThread", new int[] {-1, 4, FAR, LOW}, (mail, n) -> mail.ofThread(0, 2, n));
    }

    private static void query() {
        about("25: query", ARGUMENT, "kind is not 0 to 9, a is not 0 to 9 with 0, 0 to 99 with 1, 0 to 7 with 2 and 5,"
                + " 1 to 50 with 3, 0 or 1 with 4, or below 0 with 6, or, with 7 to 9, there is no such QUERY");
        int[][] inside = {{0, 0}, {0, 9}, {1, 0}, {1, 99}, {2, 0}, {2, 7}, {3, 1}, {3, 50}, {4, 0}, {4, 1}, {5, 0}, {5, 7},
            {6, 0}, {6, 9999}, {6, 10000}, {6, FAR}, {7, 0}, {7, 3}};
        for (int[] row : inside) {
            SOME.takes(4, "kind " + row[0] + ", a " + row[1], mail -> mail.query(row[0], row[1], LOW));
        }
        int[][] outside = {{-1, 0}, {10, 0}, {LOW, 0}, {FAR, 0}, {0, -1}, {0, 10}, {1, -1}, {1, 100}, {2, -1}, {2, 8},
            {3, 0}, {3, 51}, {4, -1}, {4, 2}, {5, -1}, {5, 8}, {6, -1}, {6, LOW}, {7, 4}, {7, -1}, {7, 20}, {7, LOW},
            {0, FAR}, {1, FAR}, {2, FAR}, {3, FAR}, {4, FAR}, {5, FAR}, {7, FAR}, {0, LOW}, {1, LOW}, {2, LOW}, {3, LOW},
            {4, LOW}, {5, LOW}};
        for (int[] row : outside) {
            String what = "kind " + row[0] + ", a " + row[1];
            SOME.refuses(ARGUMENT, what, mail -> mail.query(row[0], row[1], 0));
        }
        queryOfTwo();
        NEW.refusesEach(ARGUMENT, "the first, itself", new int[] {7, 8, 9}, (mail, n) -> mail.query(n, 0, 0));
        FULL.refusesEach(ARGUMENT, "the 21st, kind", new int[] {-1, 10}, (mail, n) -> mail.query(n, 0, 0));
        FULL.refusesEach(ARGUMENT, "the 21st, FROM", new int[] {-1, 10}, (mail, n) -> mail.query(0, n, 0));
        FULL.refusesEach(ARGUMENT, "the 21st, itself", new int[] {7, 8, 9}, (mail, n) -> mail.query(n, 20, 0));
        FULL.refusesEach(ARGUMENT, "the 21st, with itself", new int[] {8, 9}, (mail, n) -> mail.query(n, 0, 20));
        about("25: query", STATE, "there are 20");
        Twins almost = new Twins(DUE, mail -> {
            for (int i = 0; i < 19; i++) {
                mail.query(i == 0 ? 6 : 7, Math.max(0, i - 1), 0);
            }
        });
        almost.takes(19, "the 20th", mail -> mail.query(7, 18, 0));
        FULL.refuses(STATE, "the 21st", mail -> mail.query(0, 0, 0));
        FULL.refuses(STATE, "the 21st, BOTH", mail -> mail.query(8, 19, 19));
    }

    private static void queryOfTwo() {
        for (int kind : new int[] {8, 9}) {
            SOME.takes(4, "kind " + kind + ", both ends", mail -> mail.query(kind, 0, 3));
            SOME.takes(4, "kind " + kind + ", both ends, crosswise", mail -> mail.query(kind, 3, 0));
            SOME.takes(4, "kind " + kind + ", twice the same", mail -> mail.query(kind, 3, 3));
            int[] none = {4, -1, 20, FAR, LOW};
            SOME.refusesEach(ARGUMENT, "kind " + kind + ", a", none, (mail, n) -> mail.query(kind, n, 0));
            SOME.refusesEach(ARGUMENT, "kind " + kind + ", b", none, (mail, n) -> mail.query(kind, 0, n));
            SOME.refusesEach(ARGUMENT, "kind " + kind + ", a and b", none, (mail, n) -> mail.query(kind, n, n));
        }
    }

    private static void finds() {
        about("26: finds", OUT_OF_BOUNDS, "there is no such PERSON, or QUERY");
        SOME.takes("3 1", "the first QUERY", mail -> mail.finds(0, 0) + " " + mail.finds(3, 0));
        SOME.takes("2 0", "the last one", mail -> mail.finds(0, 3) + " " + mail.finds(3, 3));
        SOME.refusesEach(OUT_OF_BOUNDS, "finds of no PERSON", NO_PEOPLE, (mail, n) -> mail.finds(n, 0));
        SOME.refusesEach(OUT_OF_BOUNDS, "finds of none of both", NO_PEOPLE, (mail, n) -> mail.finds(n, 4));
        SOME.refusesEach(OUT_OF_BOUNDS, "finds", new int[] {4, 19, 20, -1, FAR, LOW}, (mail, n) -> mail.finds(0, n));
        NEW.refuses(OUT_OF_BOUNDS, "finds without any QUERY", mail -> mail.finds(0, 0));
        FULL.refuses(OUT_OF_BOUNDS, "the 21st", mail -> mail.finds(0, 20));
    }

    private static void found() {
        about("27: found", OUT_OF_BOUNDS, "there is no such PERSON, or QUERY, or place among what is found");
        SOME.takes("4 2 0", "each place",
                mail -> mail.found(0, 0, 0) + " " + mail.found(0, 0, 1) + " " + mail.found(0, 0, 2));
        SOME.refusesEach(OUT_OF_BOUNDS, "found of no PERSON", NO_PEOPLE, (mail, n) -> mail.found(n, 0, 0));
        SOME.refusesEach(OUT_OF_BOUNDS, "found of", new int[] {4, 20, -1, FAR, LOW}, (mail, n) -> mail.found(0, n, 0));
        SOME.refusesEach(OUT_OF_BOUNDS, "found(0, 0)", new int[] {3, 4, -1, FAR, LOW}, (mail, n) -> mail.found(0, 0, n));
        SOME.refusesEach(OUT_OF_BOUNDS, "found of nothing", new int[] {0, -1}, (mail, n) -> mail.found(3, 3, n));
    }

    // ---- what would be

    private static void whatWouldBe() {
        about("29: wouldLie", OUT_OF_BOUNDS, NO_PERSON);
        SOME.takes("0 0", "of 0 and 3", mail -> mail.wouldLie(0, 0, 0, 0, 1) + " " + mail.wouldLie(3, 0, 0, 0, 1));
        SOME.refusesEach(OUT_OF_BOUNDS, "wouldLie of no PERSON", NO_PEOPLE, (mail, n) -> mail.wouldLie(n, 0, 0, 0, 1));
        SOME.refusesEach(OUT_OF_BOUNDS, "wouldLie, all wrong", NO_PEOPLE, (mail, n) -> mail.wouldLie(n, 10, -1, 256, 0));
        about("29: wouldLie", ARGUMENT,
                "from is not 0 to 9, subject is not 0 to 99, words is not 0 to 255, or size is not 1 to 50");
        SOME.takes(IN, "all at the lower end", mail -> mail.wouldLie(3, 0, 0, 0, 1));
        SOME.takes(7, "all at the upper end", mail -> mail.wouldLie(2, 9, 99, 255, 50));
        for (int[] row : NO_LETTERS) {
            SOME.refuses(ARGUMENT, "wouldLie " + told(row), mail -> mail.wouldLie(0, row[0], row[1], row[2], row[3]));
            FULL.refuses(ARGUMENT, "wouldLie " + told(row), mail -> mail.wouldLie(0, row[0], row[1], row[2], row[3]));
        }
        wouldGet();
        wouldAge();
        wouldMiss();
    }

    private static void wouldGet() {
        about("30: wouldGet", ARGUMENT, "to is not 0 to 15, from is not 0 to 9, subject is not 0 to 99, words is not"
                + " 0 to 255, or size is not 1 to 50");
        SOME.takes(0, "all at the lower end", mail -> mail.wouldGet(0, 0, 0, 0, 1));
        SOME.takes(15, "all at the upper end", mail -> mail.wouldGet(15, 9, 99, 255, 50));
        SOME.refusesEach(ARGUMENT, "wouldGet TO", new int[] {-1, 16, FAR, LOW}, (mail, n) -> mail.wouldGet(n, 0, 0, 0, 1));
        for (int[] row : NO_LETTERS) {
            SOME.refuses(ARGUMENT, "wouldGet " + told(row), mail -> mail.wouldGet(1, row[0], row[1], row[2], row[3]));
            FULL.refuses(ARGUMENT, "wouldGet " + told(row), mail -> mail.wouldGet(0, row[0], row[1], row[2], row[3]));
        }
    }

    private static void wouldAge() {
        about("31: wouldAge", OUT_OF_BOUNDS, NO_PERSON);
        SOME.takes("0 0", "of 0 and 3", mail -> mail.wouldAge(0, 8) + " " + mail.wouldAge(3, 8));
        SOME.refusesEach(OUT_OF_BOUNDS, "wouldAge of no PERSON", NO_PEOPLE, (mail, n) -> mail.wouldAge(n, 8));
        SOME.refusesEach(OUT_OF_BOUNDS, "wouldAge of no PERSON, 7", NO_PEOPLE, (mail, n) -> mail.wouldAge(n, 7));
        SOME.refusesEach(OUT_OF_BOUNDS, "wouldAge of no PERSON, late", NO_PEOPLE, (mail, n) -> mail.wouldAge(n, 10000));
        about("31: wouldAge", ARGUMENT, NO_CLOCK);
        NEW.takes(0, "wouldAge(0, 1)", mail -> mail.wouldAge(0, 1));
        NEW.refusesEach(ARGUMENT, "wouldAge", new int[] {0, -1, LOW, 10000, FAR}, (mail, n) -> mail.wouldAge(0, n));
        SOME.takes("0 100", "to each end", mail -> mail.wouldAge(0, 8) + " " + mail.wouldAge(0, 9999));
        SOME.refusesEach(ARGUMENT, "wouldAge", new int[] {7, 6, 0, -1, LOW, 10000, FAR}, (mail, n) -> mail.wouldAge(0, n));
        FULL.refusesEach(ARGUMENT, "wouldAge", new int[] {9999, 10000, 9998, FAR, LOW}, (mail, n) -> mail.wouldAge(3, n));
    }

    private static void wouldMiss() {
        about("32: wouldMiss", OUT_OF_BOUNDS, NO_RULE);
        SOME.takes("3 0", "the first and the last RULE", mail -> mail.wouldMiss(0, 0) + " " + mail.wouldMiss(0, 2));
        SOME.takes(1, "the last one of 6", mail -> mail.wouldMiss(2, 5));
        SOME.refusesEach(OUT_OF_BOUNDS, "wouldMiss of no PERSON", NO_PEOPLE, (mail, n) -> mail.wouldMiss(n, 0));
        SOME.refusesEach(OUT_OF_BOUNDS, "wouldMiss", new int[] {3, 6, -1, FAR, LOW}, (mail, n) -> mail.wouldMiss(0, n));
        SOME.refusesEach(OUT_OF_BOUNDS, "wouldMiss of 6", new int[] {6, -1}, (mail, n) -> mail.wouldMiss(2, n));
        SOME.refusesEach(OUT_OF_BOUNDS, "wouldMiss without any", new int[] {0, -1}, (mail, n) -> mail.wouldMiss(3, n));
    }
}
