/** Each promise by itself: ordinary inputs, each limit from both sides, wrong inputs and which exception comes first. */
public final class PromisesTest {

    private static final int NONE = -1;
    private static final int IN = 0;
    private static final int BIN = 1;
    private static final int FAR = Integer.MAX_VALUE;
    private static final int LOW = Integer.MIN_VALUE;

    private static final Due DUE = new Due();

    private static DovecoteMail mail;

    public static void main(String[] args) {
        promise1New();
        promise2Folder();
        promise3Nest();
        promise4SetAge();
        promise5SetQuota();
        promise6SetLinger();
        promise7Rule();
        promise7WhatRulesAsk();
        promise7WhatRulesDo();
        promise8Unrule();
        promise9Folders();
        promise10OfFolder();
        promise11Send();
        promise11GoesOn();
        promise11Refused();
        promise12SetClock();
        promise12Order();
        promise13Mark();
        promise14Move();
        promise15Empty();
        promise16Messages();
        promise17Copy();
        promise18At();
        promise19Full();
        promise20Bounces();
        promise21Stamp();
        promise22Since();
        promise23Threads();
        promise24OfThread();
        promise25Query();
        promise26Finds();
        promise26Kinds();
        promise27Found();
        promise28MeanSize();
        promise29WouldLie();
        promise30WouldGet();
        promise31WouldAge();
        promise32WouldMiss();
        promise33Digest();
        allFull();
        DUE.end("PromisesTest");
    }

    // ---- how it is told

    private static void is(Object want, String what, Due.Call call) {
        DUE.is(want, what, call);
    }

    private static void outOfBounds(String what, Due.Call call) {
        refused("IndexOutOfBoundsException", what, call);
    }

    private static void illegalArgument(String what, Due.Call call) {
        refused("IllegalArgumentException", what, call);
    }

    private static void illegalState(String what, Due.Call call) {
        refused("IllegalStateException", what, call);
    }

    private static void refused(String name, String what, Due.Call call) {
        long before = mail.digest();
        is("throws." + name, what, call);
        is(before, "digest() after " + what, mail::digest);
    }

    /** Such a call must refuse every person but 0 to 3. */
    private interface OfPerson {
        Object answer(int person);
    }

    private static void noSuchPerson(String what, OfPerson call) {
        for (int person : new int[] {-1, 4, FAR, LOW}) {
            outOfBounds(what + " of person " + person, () -> call.answer(person));
        }
    }

    private static void fresh() {
        mail = new DovecoteMail();
    }

    private static int sendTo(int to) {
        return mail.send(9, to, 50, 0, 10, NONE);
    }

    /** One of its own subject, so that it is in no thread with others. */
    private static int sendAlone(int to, int subject) {
        return mail.send(9, to, subject, 0, 10, NONE);
    }

    // ---- folders, rules

    private static void promise1New() {
        fresh();
        is(0, "messages()", mail::messages);
        is(0, "stamp()", mail::stamp);
        for (int p = 0; p < 4; p++) {
            int person = p;
            is(2, "folders", () -> mail.folders(person));
            is(0, "full", () -> mail.full(person));
            is(0, "threads", () -> mail.threads(person));
            for (int f = 0; f < 2; f++) {
                int folder = f;
                is(NONE, "PARENT", () -> mail.ofFolder(person, folder, 0));
                is(0, "COPIES", () -> mail.ofFolder(person, folder, 1));
                is(1, "next NUMBER", () -> mail.ofFolder(person, folder, 4));
                is(0, "AGE before", () -> mail.setAge(person, folder, 0));
            }
            is(200, "QUOTA before", () -> mail.setQuota(person, 200));
            outOfBounds("unrule", () -> mail.unrule(person, 0));
        }
        for (int a = 0; a < 10; a++) {
            int address = a;
            is(0, "bounces", () -> mail.bounces(address));
        }
        is(20, "LINGER before", () -> mail.setLinger(20, 10));
        is(0, "the first QUERY", () -> mail.query(0, 0, 0));
        is(0, "the CLOCK is 0 at first", () -> mail.setClock(1));
        DovecoteMail other = new DovecoteMail();
        other.send(0, 15, 0, 0, 1, NONE);
        is(0, "messages() beside another object", mail::messages);
    }

    private static void promise2Folder() {
        fresh();
        is(2, "folder(0, IN)", () -> mail.folder(0, IN));
        is(3, "folder(0, 2)", () -> mail.folder(0, 2));
        is(0, "PARENT of 2", () -> mail.ofFolder(0, 2, 0));
        is(2, "PARENT of 3", () -> mail.ofFolder(0, 3, 0));
        is(2, "folder(3, IN)", () -> mail.folder(3, IN));
        noSuchPerson("folder", person -> mail.folder(person, IN));
        noSuchPerson("folder in the BIN", person -> mail.folder(person, BIN));
        outOfBounds("folder(0, 4)", () -> mail.folder(0, 4));
        outOfBounds("folder(0, -1)", () -> mail.folder(0, -1));
        outOfBounds("folder(0, FAR)", () -> mail.folder(0, FAR));
        illegalArgument("folder(0, BIN)", () -> mail.folder(0, BIN));
        for (int i = 4; i < 8; i++) {
            int parent = i - 1;
            is(i, "folder down to 7", () -> mail.folder(0, parent));
        }
        illegalState("a ninth FOLDER", () -> mail.folder(0, IN));
        illegalArgument("a ninth FOLDER in the BIN", () -> mail.folder(0, BIN));
        outOfBounds("a ninth FOLDER in none", () -> mail.folder(0, 8));
        is(8, "folders(0)", () -> mail.folders(0));
    }

    private static void promise3Nest() {
        fresh();
        mail.folder(0, IN);
        mail.folder(0, 2);
        mail.folder(0, 3);
        mail.folder(0, IN);
        is(0, "nest(0, 5, 4)", () -> mail.nest(0, 5, 4));
        is(4, "nest(0, 5, 4) again", () -> mail.nest(0, 5, 4));
        is(4, "PARENT of 5", () -> mail.ofFolder(0, 5, 0));
        illegalArgument("nest below itself, one level", () -> mail.nest(0, 2, 3));
        illegalArgument("nest below itself, three levels", () -> mail.nest(0, 2, 5));
        illegalArgument("nest in itself", () -> mail.nest(0, 2, 2));
        illegalArgument("nest in the BIN", () -> mail.nest(0, 2, BIN));
        illegalArgument("nest IN", () -> mail.nest(0, IN, 2));
        illegalArgument("nest the BIN", () -> mail.nest(0, BIN, 2));
        illegalArgument("nest the BIN in IN", () -> mail.nest(0, BIN, IN));
        outOfBounds("nest(0, 6, 0)", () -> mail.nest(0, 6, 0));
        outOfBounds("nest(0, -1, 0)", () -> mail.nest(0, -1, 0));
        outOfBounds("nest(0, IN, 6)", () -> mail.nest(0, IN, 6));
        outOfBounds("nest(0, 6, BIN)", () -> mail.nest(0, 6, BIN));
        outOfBounds("nest(0, 2, -1)", () -> mail.nest(0, 2, -1));
        outOfBounds("nest(1, 2, 0)", () -> mail.nest(1, 2, 0));
        noSuchPerson("nest", person -> mail.nest(person, 2, 0));
        is(3, "nest(0, 4, IN)", () -> mail.nest(0, 4, IN));
        is(0, "nest(0, 2, 5), not below it any more", () -> mail.nest(0, 2, 5));
        illegalArgument("nest(0, 4, 3)", () -> mail.nest(0, 4, 3));
    }

    private static void promise4SetAge() {
        fresh();
        mail.folder(0, IN);
        is(0, "setAge(0, 2, 200)", () -> mail.setAge(0, 2, 200));
        is(200, "setAge(0, 2, 1)", () -> mail.setAge(0, 2, 1));
        illegalArgument("setAge(0, 2, 201)", () -> mail.setAge(0, 2, 201));
        illegalArgument("setAge(0, 2, -1)", () -> mail.setAge(0, 2, -1));
        outOfBounds("setAge(0, 3, 201)", () -> mail.setAge(0, 3, 201));
        outOfBounds("setAge(0, -1, 1)", () -> mail.setAge(0, -1, 1));
        outOfBounds("setAge(1, 2, 1)", () -> mail.setAge(1, 2, 1));
        noSuchPerson("setAge", person -> mail.setAge(person, IN, -1));
        is(1, "setAge(0, 2, 0)", () -> mail.setAge(0, 2, 0));
        is(0, "setAge(0, BIN, 5)", () -> mail.setAge(0, BIN, 5));
        is(5, "setAge(0, BIN, 6)", () -> mail.setAge(0, BIN, 6));
        is(0, "setAge(0, IN, 5)", () -> mail.setAge(0, IN, 5));
    }

    private static void promise5SetQuota() {
        fresh();
        is(200, "setQuota(0, 2000)", () -> mail.setQuota(0, 2000));
        is(2000, "setQuota(0, 1)", () -> mail.setQuota(0, 1));
        illegalArgument("setQuota(0, 0)", () -> mail.setQuota(0, 0));
        illegalArgument("setQuota(0, 2001)", () -> mail.setQuota(0, 2001));
        noSuchPerson("setQuota", person -> mail.setQuota(person, 0));
        is(1, "setQuota(0, 7)", () -> mail.setQuota(0, 7));
        is(200, "setQuota(1, 7)", () -> mail.setQuota(1, 7));
    }

    private static void promise6SetLinger() {
        fresh();
        is(20, "setLinger(100, 50)", () -> mail.setLinger(100, 50));
        is(100, "setLinger(1, 0)", () -> mail.setLinger(1, 0));
        illegalArgument("setLinger(0, 0)", () -> mail.setLinger(0, 0));
        illegalArgument("setLinger(101, 0)", () -> mail.setLinger(101, 0));
        illegalArgument("setLinger(1, -1)", () -> mail.setLinger(5, -1));
        illegalArgument("setLinger(1, 51)", () -> mail.setLinger(5, 51));
        is(1, "setLinger(2, 3)", () -> mail.setLinger(2, 3));
        sendAlone(1, 5);
        mail.setClock(3);
        sendAlone(1, 5);
        is(1, "threads within WINDOW", () -> mail.threads(0));
        illegalArgument("setLinger(0, 2)", () -> mail.setLinger(0, 2));
        is(1, "threads after a WINDOW that was not taken", () -> mail.threads(0));
        mail.setLinger(2, 2);
        is(2, "threads beyond WINDOW", () -> mail.threads(0));
    }

    private static void promise7Rule() {
        fresh();
        noSuchPerson("rule", person -> mail.rule(person, 5, 0, false, 5, 0, false));
        illegalArgument("asks -1", () -> mail.rule(0, -1, 1, false, 1, 0, false));
        illegalArgument("asks 5", () -> mail.rule(0, 5, 1, false, 1, 0, false));
        int[][] wrong = {{0, -1}, {0, 10}, {1, -1}, {1, 100}, {2, -1}, {2, 8}, {3, 0}, {3, 51}};
        for (int[] row : wrong) {
            illegalArgument("asks " + row[0] + " a " + row[1], () -> mail.rule(0, row[0], row[1], false, 1, 0, false));
        }
        illegalArgument("does -1", () -> mail.rule(0, 4, 0, false, -1, 0, false));
        illegalArgument("does 5", () -> mail.rule(0, 4, 0, false, 5, 0, false));
        illegalArgument("puts into no FOLDER", () -> mail.rule(0, 4, 0, false, 0, 2, false));
        illegalArgument("puts into -1", () -> mail.rule(0, 4, 0, false, 0, -1, false));
        illegalArgument("goes on to itself", () -> mail.rule(2, 4, 0, false, 3, 2, false));
        illegalArgument("goes on to 4", () -> mail.rule(0, 4, 0, false, 3, 4, false));
        illegalArgument("goes on to -1", () -> mail.rule(0, 4, 0, false, 3, -1, false));
        outOfBounds("none is there", () -> mail.unrule(0, 0));
        int[][] right = {{0, 0}, {0, 9}, {1, 0}, {1, 99}, {2, 0}, {2, 7}};
        for (int i = 0; i < 6; i++) {
            int[] row = right[i];
            is(i + 1, "RULES then", () -> mail.rule(0, row[0], row[1], false, 1, FAR, false));
        }
        illegalState("a seventh RULE", () -> mail.rule(0, 0, 0, false, 1, 0, false));
        illegalArgument("a seventh, wrong one", () -> mail.rule(0, 0, 10, false, 1, 0, false));
        int[][] more = {{3, 1, 2}, {3, 50, 4}, {4, LOW, 1}, {4, FAR, 4}};
        for (int i = 0; i < 4; i++) {
            int[] row = more[i];
            is(i + 1, "RULES of 1", () -> mail.rule(1, row[0], row[1], true, row[2], LOW, true));
        }
        is(1, "puts into the BIN", () -> mail.rule(2, 4, 0, false, 0, BIN, false));
        is(2, "goes on to 3", () -> mail.rule(2, 4, 0, false, 3, 3, false));
        is(3, "goes on to 0", () -> mail.rule(2, 4, 0, false, 3, 0, false));
    }

    /** What is asked, each answered by whether the COPY lies in FOLDER 2. */
    private static boolean holds(int asks, int a, boolean isNot, int from, int subject, int words, int size, int answers) {
        fresh();
        mail.folder(0, IN);
        mail.send(5, 0, 1, 0, 1, NONE);
        mail.rule(0, asks, a, isNot, 0, 2, false);
        int message = mail.send(from, 1, subject, words, size, answers);
        return mail.copy(0, message, 1) == 2;
    }

    private static void promise7WhatRulesAsk() {
        is(true, "FROM", () -> holds(0, 4, false, 4, 9, 255, 9, NONE));
        is(false, "FROM another", () -> holds(0, 4, false, 5, 4, 255, 4, 0));
        is(false, "not FROM", () -> holds(0, 4, true, 4, 9, 255, 9, NONE));
        is(true, "not FROM another", () -> holds(0, 4, true, 3, 9, 255, 9, NONE));
        is(true, "SUBJECT", () -> holds(1, 99, false, 4, 99, 0, 9, NONE));
        is(false, "SUBJECT beside", () -> holds(1, 98, false, 4, 99, 0, 50, NONE));
        is(true, "not SUBJECT", () -> holds(1, 98, true, 4, 99, 0, 50, NONE));
        is(true, "WORD 7", () -> holds(2, 7, false, 4, 99, 128, 50, NONE));
        is(false, "WORD 7 of the others", () -> holds(2, 7, false, 7, 7, 127, 7, NONE));
        is(true, "WORD 0", () -> holds(2, 0, false, 4, 99, 1, 50, NONE));
        is(true, "not WORD 0", () -> holds(2, 0, true, 0, 0, 254, 50, NONE));
        is(true, "SIZE at the edge", () -> holds(3, 20, false, 0, 0, 0, 20, NONE));
        is(false, "SIZE below the edge", () -> holds(3, 20, false, 0, 0, 0, 19, NONE));
        is(true, "not SIZE", () -> holds(3, 20, true, 0, 0, 0, 19, NONE));
        is(false, "not SIZE at the edge", () -> holds(3, 20, true, 0, 0, 0, 20, NONE));
        is(true, "ANSWERS, of a MESSAGE not got", () -> holds(4, 77, false, 0, 0, 0, 20, 0));
        is(false, "ANSWERS none", () -> holds(4, 0, false, 0, 0, 0, 20, NONE));
        is(true, "not ANSWERS", () -> holds(4, 0, true, 0, 0, 0, 20, NONE));
        is(false, "not ANSWERS, but it does", () -> holds(4, 0, true, 0, 0, 0, 20, 0));
    }

    private static void promise7WhatRulesDo() {
        fresh();
        mail.folder(0, IN);
        mail.folder(0, IN);
        mail.rule(0, 2, 0, false, 0, 2, false);
        mail.rule(0, 2, 1, false, 0, 3, false);
        mail.rule(0, 2, 2, false, 1, 0, true);
        mail.rule(0, 2, 3, false, 2, 0, false);
        mail.rule(0, 2, 4, false, 0, IN, false);
        mail.rule(0, 2, 5, false, 4, 0, true);
        int[][] rows = {
            // WORDS, FOLDER, marks
            {0, IN, 0},
            {1, 2, 0},
            {2, 3, 0},
            {3, 3, 0},
            {8, IN, 1},
            {4, IN, 2},
            {12, IN, 2},
            {31, 3, 2},
            {27, IN, 1},
            {63, 3, 2},
            {59, NONE, 0},
            {32, NONE, 0},
            {192, IN, 0},
        };
        for (int[] row : rows) {
            int message = mail.send(9, 1, 0, row[0], 1, NONE);
            is(1, "got with WORDS " + row[0], () -> mail.copy(0, message, 0));
            is(row[1], "FOLDER with WORDS " + row[0], () -> mail.copy(0, message, 1));
            is(row[2], "marks with WORDS " + row[0], () -> mail.copy(0, message, 3));
        }
        is(11, "one STAMP for each COPY that came", mail::stamp);
    }

    private static void promise8Unrule() {
        fresh();
        for (int folder = 2; folder < 6; folder++) {
            mail.folder(0, IN);
        }
        mail.rule(0, 4, 0, true, 0, 2, false);
        mail.rule(0, 4, 0, true, 0, 3, false);
        mail.rule(0, 4, 0, true, 0, 4, true);
        mail.rule(0, 4, 0, true, 0, 5, false);
        noSuchPerson("unrule", person -> mail.unrule(person, 0));
        outOfBounds("unrule(0, 4)", () -> mail.unrule(0, 4));
        outOfBounds("unrule(0, -1)", () -> mail.unrule(0, -1));
        outOfBounds("unrule(0, LOW)", () -> mail.unrule(0, LOW));
        is(4, "wouldLie", () -> mail.wouldLie(0, 0, 0, 0, 1));
        is(3, "unrule(0, 1)", () -> mail.unrule(0, 1));
        is(4, "wouldLie", () -> mail.wouldLie(0, 0, 0, 0, 1));
        is(2, "unrule(0, 1), the LAST one", () -> mail.unrule(0, 1));
        is(5, "wouldLie", () -> mail.wouldLie(0, 0, 0, 0, 1));
        is(1, "unrule(0, 1)", () -> mail.unrule(0, 1));
        is(2, "wouldLie", () -> mail.wouldLie(0, 0, 0, 0, 1));
        outOfBounds("unrule(0, 1)", () -> mail.unrule(0, 1));
        is(0, "unrule(0, 0)", () -> mail.unrule(0, 0));
        is(IN, "wouldLie", () -> mail.wouldLie(0, 0, 0, 0, 1));
        for (int i = 1; i <= 6; i++) {
            int folder = Math.min(i, 5);
            is(i, "rule", () -> mail.rule(0, 4, 0, true, 0, folder, false));
        }
        is(5, "unrule(0, 5)", () -> mail.unrule(0, 5));
        is(6, "rule", () -> mail.rule(0, 4, 0, true, 0, 3, false));
        is(3, "wouldLie", () -> mail.wouldLie(0, 0, 0, 0, 1));
        is(5, "unrule(0, 0)", () -> mail.unrule(0, 0));
        is(6, "rule", () -> mail.rule(0, 4, 0, true, 0, 2, false));
        is(5, "unrule(0, 5)", () -> mail.unrule(0, 5));
        is(3, "wouldLie by the one before, as it was", () -> mail.wouldLie(0, 0, 0, 0, 1));
        is(6, "rule", () -> mail.rule(0, 4, 0, true, 0, 4, false));
        for (int i = 5; i > 0; i--) {
            int left = i;
            is(left, "unrule(0, 0)", () -> mail.unrule(0, 0));
            is(4, "wouldLie", () -> mail.wouldLie(0, 0, 0, 0, 1));
        }
    }

    private static void promise9Folders() {
        fresh();
        is(2, "folders(3)", () -> mail.folders(3));
        mail.folder(3, IN);
        is(3, "folders(3)", () -> mail.folders(3));
        is(2, "folders(2)", () -> mail.folders(2));
        noSuchPerson("folders", person -> mail.folders(person));
    }

    private static void promise10OfFolder() {
        fresh();
        mail.folder(0, IN);
        mail.folder(0, 2);
        mail.folder(0, 3);
        for (int i = 0; i < 6; i++) {
            mail.send(9, 1, i, 0, 10 + i, NONE);
        }
        mail.move(0, 1, 2);
        mail.move(0, 2, 3);
        mail.move(0, 3, 4);
        mail.move(0, 4, 4);
        mail.move(0, 5, BIN);
        mail.mark(0, 4, 0, true);
        mail.mark(0, 3, 1, true);
        mail.mark(0, 4, 1, true);
        int[][] rows = {
            {NONE, 1, 1, 10, 7, 5},
            {NONE, 1, 1, 15, 2, 1},
            {0, 1, 1, 11, 2, 4},
            {2, 1, 1, 12, 2, 3},
            {3, 2, 1, 27, 3, 2},
        };
        for (int f = 0; f < rows.length; f++) {
            for (int w = 0; w < 6; w++) {
                int folder = f;
                int what = w;
                is(rows[f][w], "ofFolder(0, " + f + ", " + w + ")", () -> mail.ofFolder(0, folder, what));
            }
        }
        mail.move(0, 4, 3);
        is(3, "NUMBERS are never used again", () -> mail.ofFolder(0, 4, 4));
        noSuchPerson("ofFolder", person -> mail.ofFolder(person, 0, 6));
        outOfBounds("ofFolder(0, 5, 6)", () -> mail.ofFolder(0, 5, 6));
        outOfBounds("ofFolder(0, -1, 0)", () -> mail.ofFolder(0, -1, 0));
        outOfBounds("ofFolder(1, 2, 0)", () -> mail.ofFolder(1, 2, 0));
        illegalArgument("ofFolder(0, 0, 6)", () -> mail.ofFolder(0, 0, 6));
        illegalArgument("ofFolder(0, 0, -1)", () -> mail.ofFolder(0, 0, -1));
    }

    // ---- messages

    private static void promise11Send() {
        fresh();
        outOfBounds("ANSWERS the first one itself", () -> mail.send(10, 16, 100, 256, 51, 0));
        outOfBounds("ANSWERS -2", () -> mail.send(0, 1, 0, 0, 1, -2));
        illegalArgument("FROM -1", () -> mail.send(-1, 1, 0, 0, 1, NONE));
        illegalArgument("FROM 10", () -> mail.send(10, 1, 0, 0, 1, NONE));
        illegalArgument("TO -1", () -> mail.send(0, -1, 0, 0, 1, NONE));
        illegalArgument("TO 16", () -> mail.send(0, 16, 0, 0, 1, NONE));
        illegalArgument("SUBJECT -1", () -> mail.send(0, 1, -1, 0, 1, NONE));
        illegalArgument("SUBJECT 100", () -> mail.send(0, 1, 100, 0, 1, NONE));
        illegalArgument("WORDS -1", () -> mail.send(0, 1, 0, -1, 1, NONE));
        illegalArgument("WORDS 256", () -> mail.send(0, 1, 0, 256, 1, NONE));
        illegalArgument("SIZE 0", () -> mail.send(0, 1, 0, 0, 0, NONE));
        illegalArgument("SIZE 51", () -> mail.send(0, 1, 0, 0, 51, NONE));
        is(0, "messages()", mail::messages);
        is(0, "all at the upper edge", () -> mail.send(9, 15, 99, 255, 50, NONE));
        is(1, "all at the lower edge", () -> mail.send(0, 0, 0, 0, 1, NONE));
        for (int p = 0; p < 4; p++) {
            int person = p;
            is(1, "got 0", () -> mail.copy(person, 0, 0));
            is(0, "got 1", () -> mail.copy(person, 1, 0));
            is(p + 1, "STAMPS by PEOPLE", () -> mail.copy(person, 0, 4));
        }
        is(2, "to 1 and 3", () -> mail.send(0, 10, 0, 0, 1, 1));
        is(0, "got 2", () -> mail.copy(0, 2, 0));
        is(1, "got 2", () -> mail.copy(1, 2, 0));
        is(0, "got 2", () -> mail.copy(2, 2, 0));
        is(1, "got 2", () -> mail.copy(3, 2, 0));
        for (int i = 3; i < 60; i++) {
            int number = i;
            is(number, "send", () -> mail.send(0, 0, 0, 0, 1, number - 1));
        }
        illegalState("the 61st", () -> mail.send(0, 0, 0, 0, 1, 59));
        illegalArgument("the 61st, wrong", () -> mail.send(0, 0, 0, 0, 0, 59));
        outOfBounds("the 61st, which ANSWERS itself", () -> mail.send(0, 0, 0, 0, 0, 60));
    }

    private static void promise11GoesOn() {
        fresh();
        // 0 throws away, but it goes on to 3, then 2; 3 goes on to 1 and 0 beside; 2 to 1 and 3.
        mail.rule(0, 4, 0, true, 4, 0, false);
        mail.rule(0, 4, 0, true, 3, 3, false);
        mail.rule(0, 4, 0, true, 3, 2, true);
        mail.rule(0, 4, 0, true, 3, 1, false);
        mail.rule(3, 4, 0, true, 3, 0, false);
        mail.rule(3, 4, 0, true, 3, 1, false);
        mail.rule(2, 4, 0, true, 3, 3, false);
        sendTo(1);
        is(1, "got by 0", () -> mail.copy(0, 0, 0));
        is(NONE, "thrown away by 0", () -> mail.copy(0, 0, 1));
        is(1, "STAMP of 3", () -> mail.copy(3, 0, 4));
        is(2, "STAMP of 2", () -> mail.copy(2, 0, 4));
        is(3, "STAMP of 1", () -> mail.copy(1, 0, 4));
        sendTo(6);
        is(4, "TO goes ahead: STAMP of 1", () -> mail.copy(1, 1, 4));
        is(5, "TO goes ahead: STAMP of 2", () -> mail.copy(2, 1, 4));
        is(6, "then it goes on: STAMP of 3", () -> mail.copy(3, 1, 4));
        is(1, "then on from there", () -> mail.copy(0, 1, 0));
        mail.send(9, 1, 0, 0, 1, 0);
        is(IN, "no RULE holds: 0", () -> mail.copy(0, 2, 1));
        is(0, "no RULE holds: 3", () -> mail.copy(3, 2, 0));
        mail.setQuota(3, 20);
        sendTo(8);
        is(1, "REFUSED by 3", () -> mail.bounces(9));
        is(1, "it goes on all the same", () -> mail.copy(0, 3, 0));
        is(1, "and on from there", () -> mail.copy(2, 3, 0));
    }

    private static void promise11Refused() {
        fresh();
        mail.setQuota(0, 25);
        mail.rule(0, 1, 7, false, 4, 0, false);
        sendTo(1);
        sendTo(1);
        is(2, "one above what there is room for", () -> mail.send(3, 1, 0, 0, 6, NONE));
        is(1, "bounces(3)", () -> mail.bounces(3));
        is(1, "got it", () -> mail.copy(0, 2, 0));
        is(NONE, "no FOLDER", () -> mail.copy(0, 2, 1));
        is(0, "no NUMBER", () -> mail.copy(0, 2, 2));
        is(3, "the next NUMBER is not used up", () -> mail.ofFolder(0, IN, 4));
        is(2, "no STAMP", mail::stamp);
        mail.send(3, 1, 7, 0, 50, NONE);
        is(1, "what is thrown away is not REFUSED", () -> mail.bounces(3));
        mail.send(3, 1, 0, 0, 5, NONE);
        is(25, "full to the edge", () -> mail.full(0));
        mail.send(3, 1, 0, 0, 1, NONE);
        is(2, "bounces(3)", () -> mail.bounces(3));
        mail.move(0, 0, BIN);
        mail.send(3, 1, 0, 0, 1, NONE);
        is(3, "the BIN counts, too", () -> mail.bounces(3));
        mail.empty(0, BIN);
        mail.send(3, 1, 0, 0, 10, NONE);
        is(3, "there is room again", () -> mail.bounces(3));
        mail.setQuota(0, 1);
        mail.send(4, 3, 0, 0, 1, NONE);
        is(1, "above QUOTA all the while", () -> mail.bounces(4));
        is(25, "what lies there stays", () -> mail.full(0));
        is(1, "the other BOX has room", () -> mail.full(1));
    }

    private static void promise12SetClock() {
        fresh();
        illegalArgument("setClock(0)", () -> mail.setClock(0));
        illegalArgument("setClock(-1)", () -> mail.setClock(-1));
        illegalArgument("setClock(10000)", () -> mail.setClock(10000));
        is(0, "setClock(1)", () -> mail.setClock(1));
        illegalArgument("setClock(1)", () -> mail.setClock(1));
        sendAlone(3, 1);
        sendAlone(1, 2);
        mail.mark(0, 0, 1, true);
        mail.setAge(0, BIN, 1);
        mail.setClock(5);
        mail.move(0, 0, BIN);
        mail.move(0, 1, BIN);
        is(0, "setClock(24)", () -> mail.setClock(24));
        mail.move(0, 1, IN);
        mail.move(0, 1, BIN);
        is(1, "LINGER is over for one, though STARRED", () -> mail.setClock(25));
        is(NONE, "GONE", () -> mail.copy(0, 0, 1));
        is(0, "GONE: marks", () -> mail.copy(0, 0, 3));
        is(0, "GONE: STAMP", () -> mail.copy(0, 0, 4));
        is(BIN, "came later to lie there", () -> mail.copy(0, 1, 1));
        mail.setLinger(100, 10);
        is(0, "setClock(123)", () -> mail.setClock(123));
        is(1, "setClock(124)", () -> mail.setClock(124));
        is(IN, "in the other BOX", () -> mail.copy(1, 0, 1));
        is(0, "for ever", () -> mail.setClock(9999));
        is(IN, "for ever", () -> mail.copy(1, 0, 1));
        illegalArgument("setClock(10000)", () -> mail.setClock(10000));
    }

    private static void promise12Order() {
        fresh();
        mail.setLinger(1, 10);
        mail.folder(0, IN);
        mail.setClock(10);
        for (int i = 0; i < 5; i++) {
            sendAlone(3, i);
        }
        mail.move(0, 0, 2);
        mail.move(0, 1, IN);
        mail.move(0, 2, 2);
        mail.move(0, 2, IN);
        mail.mark(0, 4, 1, true);
        mail.setAge(0, IN, 5);
        mail.setAge(0, 2, 5);
        mail.setAge(1, IN, 6);
        int stamps = mail.stamp();
        is(0, "one tick too early", () -> mail.setClock(14));
        is(stamps, "nothing changes", mail::stamp);
        is(0, "moved, but not GONE at once", () -> mail.setClock(15));
        is(stamps + 4, "four are moved", mail::stamp);
        int[] due = {1, 3, 2, 0};
        for (int k = 0; k < due.length; k++) {
            int place = k;
            is(due[k], "the BIN by FOLDERS and NUMBERS", () -> mail.at(0, BIN, place));
            is(stamps + k + 1, "STAMPS", () -> mail.copy(0, due[place], 4));
        }
        is(IN, "STARRED stays", () -> mail.copy(0, 4, 1));
        is(4, "then they are GONE, and the other BOX is aged", () -> mail.setClock(16));
        is(5, "COPIES of 1 in the BIN", () -> mail.ofFolder(1, BIN, 1));
        mail.mark(0, 4, 1, false);
        is(5, "setClock(17)", () -> mail.setClock(17));
        is(BIN, "not STARRED any more", () -> mail.copy(0, 4, 1));
        fresh();
        sendTo(3);
        mail.setAge(0, IN, 1);
        mail.setAge(1, IN, 1);
        mail.setClock(1);
        is(3, "the BOX of 0 is done first", () -> mail.copy(0, 0, 4));
        is(4, "then that of 1", () -> mail.copy(1, 0, 4));
    }

    private static void promise13Mark() {
        fresh();
        sendTo(2);
        is(false, "mark(1, 0, 0, false)", () -> mail.mark(1, 0, 0, false));
        is(1, "no STAMP for what was so", mail::stamp);
        is(false, "mark(1, 0, 0, true)", () -> mail.mark(1, 0, 0, true));
        is(1, "SEEN", () -> mail.copy(1, 0, 3));
        is(2, "STAMP", () -> mail.copy(1, 0, 4));
        is(true, "mark(1, 0, 0, true)", () -> mail.mark(1, 0, 0, true));
        is(2, "STAMP", () -> mail.copy(1, 0, 4));
        is(false, "mark(1, 0, 1, true)", () -> mail.mark(1, 0, 1, true));
        is(3, "both", () -> mail.copy(1, 0, 3));
        is(true, "mark(1, 0, 0, false)", () -> mail.mark(1, 0, 0, false));
        is(2, "STARRED", () -> mail.copy(1, 0, 3));
        is(4, "STAMP", () -> mail.copy(1, 0, 4));
        is(1, "NUMBER stays", () -> mail.copy(1, 0, 2));
        noSuchPerson("mark", person -> mail.mark(person, 0, 2, true));
        outOfBounds("mark(0, 0, 2, true)", () -> mail.mark(0, 0, 2, true));
        outOfBounds("mark(1, 1, 0, true)", () -> mail.mark(1, 1, 0, true));
        outOfBounds("mark(1, -1, 0, true)", () -> mail.mark(1, -1, 0, true));
        outOfBounds("mark(1, FAR, 0, true)", () -> mail.mark(1, FAR, 0, true));
        illegalArgument("mark(1, 0, 2, true)", () -> mail.mark(1, 0, 2, true));
        illegalArgument("mark(1, 0, -1, true)", () -> mail.mark(1, 0, -1, true));
        mail.move(1, 0, BIN);
        is(true, "in the BIN, too", () -> mail.mark(1, 0, 1, false));
        mail.empty(1, BIN);
        outOfBounds("of what is GONE", () -> mail.mark(1, 0, 0, true));
    }

    private static void promise14Move() {
        fresh();
        mail.folder(0, IN);
        sendTo(1);
        sendTo(1);
        mail.mark(0, 1, 1, true);
        is(1, "move(0, 0, IN)", () -> mail.move(0, 0, IN));
        is(3, "no STAMP", mail::stamp);
        is(1, "move(0, 1, 2)", () -> mail.move(0, 1, 2));
        is(2, "move(0, 0, 2)", () -> mail.move(0, 0, 2));
        is(5, "STAMP", () -> mail.copy(0, 0, 4));
        is(2, "marks stay", () -> mail.copy(0, 1, 3));
        is(3, "move(0, 1, IN)", () -> mail.move(0, 1, IN));
        is(3, "move(0, 1, 2)", () -> mail.move(0, 1, 2));
        is(1, "move(0, 1, BIN)", () -> mail.move(0, 1, BIN));
        is(BIN, "FOLDER", () -> mail.copy(0, 1, 1));
        is(4, "move(0, 1, 2), out of the BIN", () -> mail.move(0, 1, 2));
        noSuchPerson("move", person -> mail.move(person, 0, IN));
        outOfBounds("move(0, 2, IN)", () -> mail.move(0, 2, IN));
        outOfBounds("move(0, -1, IN)", () -> mail.move(0, -1, IN));
        outOfBounds("move(0, 60, IN)", () -> mail.move(0, 60, IN));
        outOfBounds("move(1, 0, IN)", () -> mail.move(1, 0, IN));
        outOfBounds("move(0, 0, 3)", () -> mail.move(0, 0, 3));
        outOfBounds("move(0, 0, -1)", () -> mail.move(0, 0, -1));
    }

    private static void promise15Empty() {
        fresh();
        mail.folder(0, IN);
        for (int i = 0; i < 4; i++) {
            sendAlone(1, i);
        }
        mail.move(0, 3, 2);
        mail.move(0, 0, 2);
        mail.move(0, 1, 2);
        mail.mark(0, 0, 1, true);
        is(3, "empty(0, 2)", () -> mail.empty(0, 2));
        int[] due = {3, 0, 1};
        for (int k = 0; k < due.length; k++) {
            int place = k;
            is(due[k], "by NUMBERS", () -> mail.at(0, BIN, place));
            is(9 + k, "STAMPS", () -> mail.copy(0, due[place], 4));
        }
        is(0, "empty(0, 2)", () -> mail.empty(0, 2));
        is(40, "full(0)", () -> mail.full(0));
        is(3, "empty(0, BIN)", () -> mail.empty(0, BIN));
        is(10, "full(0)", () -> mail.full(0));
        is(11, "no STAMP for what is GONE", mail::stamp);
        is(4, "next NUMBER of the BIN", () -> mail.ofFolder(0, BIN, 4));
        is(1, "got it all the same", () -> mail.copy(0, 3, 0));
        is(0, "empty(0, BIN)", () -> mail.empty(0, BIN));
        is(1, "empty(0, IN)", () -> mail.empty(0, IN));
        is(4, "NUMBER in the BIN", () -> mail.copy(0, 2, 2));
        noSuchPerson("empty", person -> mail.empty(person, IN));
        outOfBounds("empty(0, 3)", () -> mail.empty(0, 3));
        outOfBounds("empty(0, -1)", () -> mail.empty(0, -1));
        mail.setClock(3);
        sendAlone(1, 9);
        mail.empty(0, IN);
        mail.setClock(20);
        is(NONE, "it lay there from 0 on", () -> mail.copy(0, 2, 1));
        is(BIN, "it lies there from 3 on", () -> mail.copy(0, 4, 1));
        is(1, "until 23", () -> mail.setClock(23));
    }

    private static void promise16Messages() {
        fresh();
        sendTo(0);
        is(1, "messages()", mail::messages);
        sendTo(15);
        is(2, "messages()", mail::messages);
        illegalArgument("a wrong one", () -> mail.send(0, 16, 0, 0, 1, NONE));
        is(2, "messages()", mail::messages);
    }

    private static void promise17Copy() {
        fresh();
        mail.folder(2, IN);
        mail.rule(2, 1, 7, false, 0, 2, false);
        mail.rule(2, 1, 7, false, 1, 0, false);
        sendTo(4);
        sendAlone(4, 7);
        int[] due = {1, 2, 1, 2, 2};
        int[] none = {0, NONE, 0, 0, 0};
        for (int w = 0; w < 5; w++) {
            int what = w;
            is(due[w], "copy(2, 1, " + w + ")", () -> mail.copy(2, 1, what));
            is(none[w], "copy(1, 1, " + w + ")", () -> mail.copy(1, 1, what));
        }
        noSuchPerson("copy", person -> mail.copy(person, 0, 5));
        outOfBounds("copy(2, 2, 5)", () -> mail.copy(2, 2, 5));
        outOfBounds("copy(2, -1, 0)", () -> mail.copy(2, -1, 0));
        outOfBounds("copy(2, 60, 0)", () -> mail.copy(2, 60, 0));
        illegalArgument("copy(2, 0, 5)", () -> mail.copy(2, 0, 5));
        illegalArgument("copy(1, 0, -1)", () -> mail.copy(1, 0, -1));
        mail.empty(2, 2);
        mail.empty(2, BIN);
        int[] gone = {1, NONE, 0, 0, 0};
        for (int w = 0; w < 5; w++) {
            int what = w;
            is(gone[w], "copy(2, 1, " + w + ") of what is GONE", () -> mail.copy(2, 1, what));
        }
    }

    private static void promise18At() {
        fresh();
        mail.folder(0, IN);
        for (int i = 0; i < 4; i++) {
            sendAlone(1, i);
        }
        mail.move(0, 2, 2);
        mail.move(0, 1, 2);
        mail.move(0, 2, IN);
        int[] in = {0, 3, 2};
        for (int k = 0; k < in.length; k++) {
            int place = k;
            is(in[k], "at(0, IN, " + k + ")", () -> mail.at(0, IN, place));
        }
        is(1, "at(0, 2, 0)", () -> mail.at(0, 2, 0));
        noSuchPerson("at", person -> mail.at(person, 0, 0));
        outOfBounds("at(0, IN, 3)", () -> mail.at(0, IN, 3));
        outOfBounds("at(0, IN, -1)", () -> mail.at(0, IN, -1));
        outOfBounds("at(0, IN, FAR)", () -> mail.at(0, IN, FAR));
        outOfBounds("at(0, IN, LOW)", () -> mail.at(0, IN, LOW));
        outOfBounds("at(0, BIN, 0)", () -> mail.at(0, BIN, 0));
        outOfBounds("at(0, 3, 0)", () -> mail.at(0, 3, 0));
        outOfBounds("at(0, -1, 0)", () -> mail.at(0, -1, 0));
    }

    private static void promise19Full() {
        fresh();
        mail.send(0, 3, 0, 0, 50, NONE);
        mail.send(0, 1, 0, 0, 1, NONE);
        is(51, "full(0)", () -> mail.full(0));
        is(50, "full(1)", () -> mail.full(1));
        is(0, "full(2)", () -> mail.full(2));
        mail.move(0, 0, BIN);
        is(51, "full(0), the BIN with it", () -> mail.full(0));
        mail.empty(0, BIN);
        is(1, "full(0)", () -> mail.full(0));
        noSuchPerson("full", person -> mail.full(person));
        mail.setQuota(3, 2000);
        for (int i = 0; i < 40; i++) {
            mail.send(0, 8, 0, 0, 50, NONE);
        }
        is(2000, "full(3)", () -> mail.full(3));
        mail.send(8, 8, 0, 0, 1, NONE);
        is(1, "bounces(8)", () -> mail.bounces(8));
    }

    private static void promise20Bounces() {
        fresh();
        mail.setQuota(0, 1);
        mail.setQuota(1, 1);
        mail.send(9, 15, 0, 0, 2, NONE);
        mail.send(0, 1, 0, 0, 2, NONE);
        is(2, "bounces(9)", () -> mail.bounces(9));
        is(1, "bounces(0)", () -> mail.bounces(0));
        is(0, "bounces(8)", () -> mail.bounces(8));
        for (int address : new int[] {-1, 10, FAR, LOW}) {
            outOfBounds("bounces(" + address + ")", () -> mail.bounces(address));
        }
    }

    private static void promise21Stamp() {
        fresh();
        is(0, "stamp()", mail::stamp);
        sendTo(5);
        is(2, "stamp()", mail::stamp);
        mail.mark(2, 0, 0, true);
        is(3, "stamp()", mail::stamp);
        mail.move(0, 0, BIN);
        is(4, "stamp()", mail::stamp);
        mail.empty(0, BIN);
        is(4, "stamp()", mail::stamp);
    }

    private static void promise22Since() {
        fresh();
        sendAlone(3, 0);
        sendAlone(3, 1);
        sendAlone(1, 2);
        is(3, "since(0, IN, 0)", () -> mail.since(0, IN, 0));
        is(3, "since(0, IN, LOW)", () -> mail.since(0, IN, LOW));
        is(2, "since(0, IN, 1)", () -> mail.since(0, IN, 1));
        is(1, "since(0, IN, 3)", () -> mail.since(0, IN, 3));
        is(1, "since(0, IN, 4)", () -> mail.since(0, IN, 4));
        is(0, "since(0, IN, 5)", () -> mail.since(0, IN, 5));
        is(0, "since(0, IN, FAR)", () -> mail.since(0, IN, FAR));
        mail.mark(0, 0, 0, true);
        is(1, "since(0, IN, 5)", () -> mail.since(0, IN, 5));
        mail.move(0, 1, BIN);
        is(2, "since(0, IN, 0)", () -> mail.since(0, IN, 0));
        is(1, "since(0, BIN, 6)", () -> mail.since(0, BIN, 6));
        is(0, "since(0, BIN, 7)", () -> mail.since(0, BIN, 7));
        noSuchPerson("since", person -> mail.since(person, IN, 0));
        outOfBounds("since(0, 2, 0)", () -> mail.since(0, 2, 0));
        outOfBounds("since(0, -1, -1)", () -> mail.since(0, -1, -1));
    }

    // ---- threads, searches

    private static void promise23Threads() {
        fresh();
        mail.send(0, 1, 1, 0, 1, NONE);
        mail.send(0, 3, 2, 0, 1, 0);
        mail.send(0, 1, 3, 0, 1, NONE);
        is(2, "threads(0)", () -> mail.threads(0));
        is(1, "threads(1)", () -> mail.threads(1));
        mail.setClock(10);
        mail.send(0, 1, 3, 0, 1, NONE);
        is(2, "WINDOW to the edge", () -> mail.threads(0));
        mail.setClock(20);
        mail.send(0, 1, 3, 0, 1, NONE);
        is(2, "one by one", () -> mail.threads(0));
        mail.move(0, 3, BIN);
        is(2, "the BIN with them", () -> mail.threads(0));
        mail.empty(0, BIN);
        is(3, "one from the middle is GONE", () -> mail.threads(0));
        mail.setClock(21);
        mail.send(0, 1, 2, 0, 1, 2);
        is(3, "beside what it ANSWERS", () -> mail.threads(0));
        mail.send(0, 1, 3, 0, 1, 1);
        is(2, "this one joins two", () -> mail.threads(0));
        noSuchPerson("threads", person -> mail.threads(person));
        fresh();
        sendAlone(1, 5);
        mail.setClock(11);
        sendAlone(1, 5);
        is(2, "beyond WINDOW as it is at first", () -> mail.threads(0));
        mail.send(9, 1, 6, 0, 1, 0);
        mail.send(9, 1, 7, 0, 1, 0);
        is(2, "threads(0)", () -> mail.threads(0));
        mail.move(0, 0, BIN);
        mail.empty(0, BIN);
        is(3, "what is GONE joins none", () -> mail.threads(0));
    }

    private static void promise24OfThread() {
        fresh();
        mail.setLinger(20, 0);
        mail.send(0, 3, 1, 0, 1, NONE);
        mail.setClock(1);
        mail.send(0, 1, 2, 0, 1, NONE);
        mail.send(0, 3, 3, 0, 1, 1);
        mail.send(0, 3, 4, 0, 1, 2);
        mail.send(0, 3, 1, 0, 1, NONE);
        mail.send(0, 3, 1, 0, 1, 3);
        mail.mark(0, 2, 0, true);
        mail.mark(0, 3, 1, true);
        mail.mark(0, 4, 1, true);
        int[][] due = {{0, 1, 1, 0}, {1, 5, 4, 0}, {1, 5, 4, 1}, {1, 5, 4, 2}, {1, 5, 4, 0}, {1, 5, 4, 3}};
        for (int m = 0; m < 6; m++) {
            for (int w = 0; w < 4; w++) {
                int message = m;
                int what = w;
                is(due[m][w], "ofThread(0, " + m + ", " + w + ")", () -> mail.ofThread(0, message, what));
            }
        }
        is(2, "ROOT in the BOX of 1", () -> mail.ofThread(1, 5, 0));
        is(2, "steps in the BOX of 1", () -> mail.ofThread(1, 5, 3));
        noSuchPerson("ofThread", person -> mail.ofThread(person, 0, 4));
        outOfBounds("ofThread(1, 1, 4)", () -> mail.ofThread(1, 1, 4));
        outOfBounds("ofThread(0, 6, 0)", () -> mail.ofThread(0, 6, 0));
        outOfBounds("ofThread(0, -1, 0)", () -> mail.ofThread(0, -1, 0));
        illegalArgument("ofThread(0, 0, 4)", () -> mail.ofThread(0, 0, 4));
        illegalArgument("ofThread(0, 0, -1)", () -> mail.ofThread(0, 0, -1));
        mail.move(0, 2, BIN);
        mail.empty(0, BIN);
        is(3, "ROOT, as 2 is GONE", () -> mail.ofThread(0, 5, 0));
        is(1, "steps, as 2 is GONE", () -> mail.ofThread(0, 5, 3));
        is(0, "steps, as 2 is GONE", () -> mail.ofThread(0, 3, 3));
        outOfBounds("of what is GONE", () -> mail.ofThread(0, 2, 0));
    }

    private static void promise25Query() {
        fresh();
        illegalArgument("kind -1", () -> mail.query(-1, 0, 0));
        illegalArgument("kind 10", () -> mail.query(10, 0, 0));
        int[][] wrong = {{0, -1}, {0, 10}, {1, -1}, {1, 100}, {2, -1}, {2, 8}, {3, 0}, {3, 51}, {4, -1}, {4, 2},
            {5, -1}, {5, 8}, {6, -1}, {6, LOW}, {7, 0}, {7, -1}, {8, 0}, {9, 0}};
        for (int[] row : wrong) {
            illegalArgument("kind " + row[0] + " a " + row[1], () -> mail.query(row[0], row[1], 0));
        }
        int[][] right = {{0, 0}, {0, 9}, {1, 0}, {1, 99}, {2, 0}, {2, 7}, {3, 1}, {3, 50}, {4, 0}, {4, 1}, {5, 0},
            {5, 7}, {6, 0}, {6, FAR}, {7, 13}};
        for (int i = 0; i < right.length; i++) {
            int[] row = right[i];
            is(i, "kind " + row[0] + " a " + row[1], () -> mail.query(row[0], row[1], LOW));
        }
        illegalArgument("BOTH with itself", () -> mail.query(8, 0, 15));
        illegalArgument("BOTH with -1", () -> mail.query(8, 0, -1));
        illegalArgument("BOTH with none", () -> mail.query(8, 15, 0));
        illegalArgument("EITHER with itself", () -> mail.query(9, 0, 15));
        illegalArgument("EITHER with none", () -> mail.query(9, -1, 0));
        illegalArgument("NOT itself", () -> mail.query(7, 15, 0));
        is(15, "BOTH", () -> mail.query(8, 14, 0));
        is(16, "EITHER", () -> mail.query(9, 0, 15));
        is(17, "BOTH of one", () -> mail.query(8, 16, 16));
        is(18, "BOTH", () -> mail.query(8, 17, 17));
        is(19, "BOTH", () -> mail.query(8, 18, 18));
        illegalState("the 21st", () -> mail.query(0, 0, 0));
        illegalArgument("the 21st, wrong", () -> mail.query(0, 10, 0));
        illegalArgument("the 21st, NOT the 21st", () -> mail.query(7, 20, 0));
        outOfBounds("finds(0, 20)", () -> mail.finds(0, 20));
    }

    private static void promise26Finds() {
        fresh();
        mail.query(6, 0, 0);
        is(0, "finds(0, 0)", () -> mail.finds(0, 0));
        sendAlone(3, 0);
        sendAlone(1, 1);
        is(2, "finds(0, 0)", () -> mail.finds(0, 0));
        is(1, "finds(1, 0)", () -> mail.finds(1, 0));
        mail.move(0, 0, BIN);
        is(2, "the BIN with them", () -> mail.finds(0, 0));
        mail.empty(0, BIN);
        is(1, "one is GONE", () -> mail.finds(0, 0));
        noSuchPerson("finds", person -> mail.finds(person, 0));
        outOfBounds("finds(0, 1)", () -> mail.finds(0, 1));
        outOfBounds("finds(0, -1)", () -> mail.finds(0, -1));
        outOfBounds("finds(0, FAR)", () -> mail.finds(0, FAR));
    }

    /** What a search finds in the BOX of 0, as a set. */
    private static int setFound(int query) {
        int set = 0;
        for (int k = 0; k < mail.finds(0, query); k++) {
            set |= 1 << mail.found(0, query, k);
        }
        return set;
    }

    private static void promise26Kinds() {
        fresh();
        mail.folder(0, IN);
        mail.folder(0, 2);
        mail.folder(0, IN);
        mail.send(4, 1, 5, 3, 10, NONE);
        mail.send(5, 1, 4, 128, 11, NONE);
        mail.setClock(4);
        mail.send(4, 1, 4, 64, 12, 0);
        mail.setClock(5);
        mail.send(4, 1, 9, 1, 13, NONE);
        mail.send(4, 2, 9, 1, 13, NONE);
        mail.mark(0, 1, 0, true);
        mail.mark(0, 2, 1, true);
        mail.move(0, 1, 2);
        mail.move(0, 2, 3);
        mail.move(0, 3, BIN);
        int[][] rows = {
            // kind, a, b, the set found
            {0, 4, 0, 13},
            {1, 4, 0, 6},
            {2, 0, 0, 9},
            {2, 7, 0, 2},
            {3, 12, 0, 12},
            {4, 0, 0, 2},
            {4, 1, 0, 4},
            {5, IN, 0, 7},
            {5, 2, 0, 6},
            {5, 3, 0, 4},
            {5, BIN, 0, 8},
            {5, 7, 0, 0},
            {6, 4, 0, 12},
            {6, 5, 0, 8},
            {6, 6, 0, 0},
            {7, 2, 0, 6},
            {8, 0, 1, 4},
            {9, 2, 3, 11},
            {7, 17, 0, 4},
            {9, 10, 18, 12},
        };
        for (int q = 0; q < rows.length; q++) {
            int query = q;
            mail.query(rows[q][0], rows[q][1], rows[q][2]);
            is(rows[q][3], "QUERY " + q, () -> setFound(query));
        }
        mail.nest(0, 3, 4);
        is(2, "QUERY 8 after nest", () -> setFound(8));
    }

    private static void promise27Found() {
        fresh();
        for (int i = 0; i < 4; i++) {
            sendAlone(1, i);
        }
        mail.query(0, 9, 0);
        mail.query(0, 8, 0);
        mail.move(0, 2, BIN);
        mail.empty(0, BIN);
        is(3, "found(0, 0, 0)", () -> mail.found(0, 0, 0));
        is(1, "found(0, 0, 1)", () -> mail.found(0, 0, 1));
        is(0, "found(0, 0, 2)", () -> mail.found(0, 0, 2));
        outOfBounds("found(0, 0, 3)", () -> mail.found(0, 0, 3));
        outOfBounds("found(0, 0, -1)", () -> mail.found(0, 0, -1));
        outOfBounds("found(0, 0, LOW)", () -> mail.found(0, 0, LOW));
        outOfBounds("found(0, 1, 0)", () -> mail.found(0, 1, 0));
        outOfBounds("found(0, 2, 0)", () -> mail.found(0, 2, 0));
        outOfBounds("found(0, -1, 0)", () -> mail.found(0, -1, 0));
        noSuchPerson("found", person -> mail.found(person, 0, 0));
    }

    private static void promise28MeanSize() {
        fresh();
        is(0.0, "meanSize(0)", () -> mail.meanSize(0));
        mail.send(0, 1, 0, 0, 1, NONE);
        mail.send(0, 1, 0, 0, 2, NONE);
        is(1.5, "meanSize(0)", () -> mail.meanSize(0));
        mail.send(0, 1, 0, 0, 50, NONE);
        is(53.0 / 3.0, "meanSize(0)", () -> mail.meanSize(0));
        mail.move(0, 0, BIN);
        is(53.0 / 3.0, "meanSize(0), the BIN with it", () -> mail.meanSize(0));
        mail.empty(0, BIN);
        is(26.0, "meanSize(0)", () -> mail.meanSize(0));
        is(0.0, "meanSize(1)", () -> mail.meanSize(1));
        noSuchPerson("meanSize", person -> mail.meanSize(person));
    }

    // ---- what would be

    private static void wrongLetters(String what, int[] row, Due.Call call) {
        illegalArgument(what + " FROM " + row[0] + " SUBJECT " + row[1] + " WORDS " + row[2] + " SIZE " + row[3], call);
    }

    private static final int[][] WRONG = {{-1, 0, 0, 1}, {10, 0, 0, 1}, {0, -1, 0, 1}, {0, 100, 0, 1}, {0, 0, -1, 1},
        {0, 0, 256, 1}, {0, 0, 0, 0}, {0, 0, 0, 51}};

    private static void promise29WouldLie() {
        fresh();
        mail.folder(0, IN);
        mail.rule(0, 4, 0, false, 4, 0, true);
        mail.rule(0, 1, 99, false, 0, 2, false);
        mail.rule(0, 2, 7, false, 4, 0, false);
        mail.rule(0, 0, 9, false, 0, BIN, false);
        mail.setQuota(0, 50);
        is(2, "wouldLie(0, 0, 99, 127, 50)", () -> mail.wouldLie(0, 0, 99, 127, 50));
        is(BIN, "wouldLie(0, 9, 99, 0, 1)", () -> mail.wouldLie(0, 9, 99, 0, 1));
        is(IN, "wouldLie(0, 0, 0, 0, 1)", () -> mail.wouldLie(0, 0, 0, 0, 1));
        is(-1, "wouldLie(0, 0, 99, 255, 50)", () -> mail.wouldLie(0, 0, 99, 255, 50));
        mail.send(0, 1, 0, 0, 1, NONE);
        is(-2, "wouldLie(0, 0, 99, 0, 50)", () -> mail.wouldLie(0, 0, 99, 0, 50));
        is(2, "wouldLie(0, 0, 99, 0, 49)", () -> mail.wouldLie(0, 0, 99, 0, 49));
        is(-1, "thrown away, though there is no room", () -> mail.wouldLie(0, 0, 99, 255, 50));
        is(IN, "in the BOX of 1", () -> mail.wouldLie(1, 0, 99, 255, 50));
        long before = mail.digest();
        mail.wouldLie(0, 0, 99, 0, 50);
        is(before, "nothing is changed", mail::digest);
        noSuchPerson("wouldLie", person -> mail.wouldLie(person, 10, 100, 256, 0));
        for (int[] row : WRONG) {
            wrongLetters("wouldLie", row, () -> mail.wouldLie(0, row[0], row[1], row[2], row[3]));
        }
    }

    private static void promise30WouldGet() {
        fresh();
        mail.rule(0, 1, 7, false, 4, 0, false);
        mail.rule(0, 1, 7, false, 3, 2, true);
        mail.rule(0, 1, 7, false, 3, 3, false);
        mail.rule(2, 2, 0, false, 3, 1, false);
        mail.rule(2, 4, 0, false, 3, 3, false);
        mail.setQuota(2, 1);
        is(0, "wouldGet(0, 9, 99, 255, 50)", () -> mail.wouldGet(0, 9, 99, 255, 50));
        is(15, "wouldGet(15, 0, 0, 0, 1)", () -> mail.wouldGet(15, 0, 0, 0, 1));
        is(1, "wouldGet(1, 0, 6, 1, 1)", () -> mail.wouldGet(1, 0, 6, 1, 1));
        is(5, "wouldGet(1, 0, 7, 2, 50)", () -> mail.wouldGet(1, 0, 7, 2, 50));
        is(7, "wouldGet(5, 0, 6, 1, 1)", () -> mail.wouldGet(5, 0, 6, 1, 1));
        is(1, "wouldGet(1, 0, 6, 1, 1) after that", () -> mail.wouldGet(1, 0, 6, 1, 1));
        is(7, "wouldGet(1, 0, 7, 1, 50)", () -> mail.wouldGet(1, 0, 7, 1, 50));
        is(14, "wouldGet(12, 0, 7, 1, 50)", () -> mail.wouldGet(12, 0, 7, 1, 50));
        is(0, "nothing is changed", mail::messages);
        is(0, "nothing is changed", () -> mail.bounces(0));
        illegalArgument("TO 16", () -> mail.wouldGet(16, 0, 0, 0, 1));
        illegalArgument("TO -1", () -> mail.wouldGet(-1, 0, 0, 0, 1));
        for (int[] row : WRONG) {
            wrongLetters("wouldGet", row, () -> mail.wouldGet(1, row[0], row[1], row[2], row[3]));
        }
    }

    private static void promise31WouldAge() {
        fresh();
        mail.folder(0, IN);
        for (int i = 0; i < 5; i++) {
            sendAlone(3, i);
        }
        mail.move(0, 0, BIN);
        mail.mark(0, 0, 1, true);
        mail.move(0, 1, 2);
        mail.mark(0, 2, 1, true);
        mail.setAge(0, IN, 20);
        mail.setAge(0, 2, 10);
        mail.setAge(0, BIN, 1);
        is(0, "wouldAge(0, 9)", () -> mail.wouldAge(0, 9));
        is(1, "wouldAge(0, 10)", () -> mail.wouldAge(0, 10));
        is(1, "wouldAge(0, 19)", () -> mail.wouldAge(0, 19));
        is(103, "wouldAge(0, 20)", () -> mail.wouldAge(0, 20));
        is(103, "wouldAge(0, 9999)", () -> mail.wouldAge(0, 9999));
        is(0, "wouldAge(1, 9999)", () -> mail.wouldAge(1, 9999));
        is(14, "nothing is changed", mail::stamp);
        noSuchPerson("wouldAge", person -> mail.wouldAge(person, 0));
        illegalArgument("wouldAge(0, 0)", () -> mail.wouldAge(0, 0));
        illegalArgument("wouldAge(0, 10000)", () -> mail.wouldAge(0, 10000));
        illegalArgument("wouldAge(0, LOW)", () -> mail.wouldAge(0, LOW));
        mail.setClock(12);
        illegalArgument("wouldAge(0, 12)", () -> mail.wouldAge(0, 12));
        is(0, "wouldAge(0, 13)", () -> mail.wouldAge(0, 13));
        is(102, "wouldAge(0, 31)", () -> mail.wouldAge(0, 31));
        is(202, "wouldAge(0, 32)", () -> mail.wouldAge(0, 32));
        is(2, "as setClock does", () -> mail.setClock(32));
    }

    private static void promise32WouldMiss() {
        fresh();
        mail.folder(0, IN);
        mail.folder(0, IN);
        mail.send(1, 1, 0, 1, 1, NONE);
        mail.send(2, 1, 0, 2, 1, 0);
        mail.send(3, 1, 0, 3, 1, NONE);
        mail.send(3, 1, 0, 4, 50, NONE);
        mail.send(3, 2, 0, 255, 1, NONE);
        mail.empty(0, IN);
        mail.empty(0, BIN);
        mail.setQuota(0, 1);
        mail.send(4, 1, 0, 1, 50, NONE);
        is(IN, "nothing came to lie", () -> mail.full(0));
        mail.rule(0, 2, 0, false, 0, 2, false);
        mail.rule(0, 2, 1, false, 0, 3, true);
        mail.rule(0, 2, 2, false, 1, 0, true);
        mail.rule(0, 4, 0, false, 4, 0, false);
        mail.rule(0, 3, 50, false, 0, IN, false);
        is(1, "wouldMiss(0, 0)", () -> mail.wouldMiss(0, 0));
        is(2, "wouldMiss(0, 1)", () -> mail.wouldMiss(0, 1));
        is(0, "wouldMiss(0, 2)", () -> mail.wouldMiss(0, 2));
        is(0, "wouldMiss(0, 3)", () -> mail.wouldMiss(0, 3));
        is(1, "wouldMiss(0, 4)", () -> mail.wouldMiss(0, 4));
        mail.unrule(0, 4);
        is(2, "wouldMiss(0, 0), as they are now", () -> mail.wouldMiss(0, 0));
        mail.unrule(0, 1);
        is(1, "wouldMiss(0, 2), thrown away", () -> mail.wouldMiss(0, 2));
        is(3, "wouldMiss(0, 0)", () -> mail.wouldMiss(0, 0));
        noSuchPerson("wouldMiss", person -> mail.wouldMiss(person, 0));
        outOfBounds("wouldMiss(0, 3)", () -> mail.wouldMiss(0, 3));
        outOfBounds("wouldMiss(0, -1)", () -> mail.wouldMiss(0, -1));
        outOfBounds("wouldMiss(1, 0)", () -> mail.wouldMiss(1, 0));
    }

    /** That digest() answers so after these calls on a new object as the promise says it. */
    private static void digestIs(String what, int queries, Twins.Calls calls) {
        DovecoteMail made = new DovecoteMail();
        calls.on(made);
        long due = Checksum.of(calls, queries).longValue();
        is(due, "digest() " + what, made::digest);
        is(due, "digest() again " + what, made::digest);
    }

    private static void promise33Digest() {
        fresh();
        is(-2284889529208440319L, "digest() of a new object", mail::digest);
        digestIs("of a new object", 0, made -> { });
        digestIs("with some of all", 3, made -> {
            made.folder(0, IN);
            made.folder(2, IN);
            made.folder(2, 2);
            made.setQuota(1, 20);
            made.rule(0, 2, 0, false, 0, 2, false);
            for (int i = 0; i < 8; i++) {
                made.send(i, 15 - i, i % 3, i, 5 + i, i - 1);
                made.setClock(i * 4 + 1);
            }
            made.mark(0, 0, 0, true);
            made.move(2, 0, 3);
            made.move(3, 1, BIN);
            made.empty(3, BIN);
            made.query(3, 8, 0);
            made.query(5, 2, 0);
            made.query(7, 1, 0);
        });
    }

    /** All FOLDERS, RULES, MESSAGES and QUERIES that can be. */
    private static void fill(DovecoteMail made) {
        for (int folder = 2; folder < 8; folder++) {
            made.folder(0, folder == 2 ? IN : folder - 1);
            made.setAge(0, folder, 30);
        }
        for (int i = 0; i < 6; i++) {
            made.rule(0, 2, i, false, i % 2 == 0 ? 0 : 3, i % 2 == 0 ? i + 2 : i % 3 + 1, false);
        }
        made.setQuota(0, 2000);
        for (int i = 0; i < 60; i++) {
            made.send(i % 10, 1, i, i, 10, i - 1);
        }
        made.query(3, 1, 0);
        for (int i = 1; i < 20; i++) {
            made.query(9, i - 1, i - 1);
        }
    }

    private static void age(DovecoteMail made) {
        made.setClock(30);
        made.empty(0, IN);
        made.move(0, 0, IN);
    }

    private static void allFull() {
        fresh();
        fill(mail);
        digestIs("with all that can be", 20, PromisesTest::fill);
        is(600, "full(0)", () -> mail.full(0));
        is(10.0, "meanSize(0)", () -> mail.meanSize(0));
        is(60, "finds(0, 19)", () -> mail.finds(0, 19));
        is(59, "found(0, 19, 0)", () -> mail.found(0, 19, 0));
        is(0, "found(0, 19, 59)", () -> mail.found(0, 19, 59));
        is(1, "threads(0)", () -> mail.threads(0));
        is(60, "COPIES of the THREAD", () -> mail.ofThread(0, 59, 1));
        is(59, "steps", () -> mail.ofThread(0, 59, 3));
        is(60, "COPIES in IN or BELOW it", () -> mail.ofFolder(0, IN, 5));
        is(28, "wouldMiss(0, 4)", () -> mail.wouldMiss(0, 4));
        is(mail.ofFolder(0, 6, 1), "since(0, 6, 0)", () -> mail.since(0, 6, 0));
        is(52, "wouldAge(0, 30)", () -> mail.wouldAge(0, 30));
        is(0, "setClock(30)", () -> mail.setClock(30));
        is(52, "COPIES in the BIN", () -> mail.ofFolder(0, BIN, 1));
        is(8, "empty(0, IN)", () -> mail.empty(0, IN));
        is(6000, "wouldAge(0, 50)", () -> mail.wouldAge(0, 50));
        is(9, "move(0, 0, IN)", () -> mail.move(0, 0, IN));
        digestIs("as all are old", 20, made -> {
            fill(made);
            age(made);
        });
        is(59, "setClock(50)", () -> mail.setClock(50));
        mail.move(0, 0, BIN);
        is(1, "empty(0, BIN)", () -> mail.empty(0, BIN));
        digestIs("as all are GONE", 20, made -> {
            fill(made);
            age(made);
            made.setClock(50);
            made.move(0, 0, BIN);
            made.empty(0, BIN);
        });
    }
}
