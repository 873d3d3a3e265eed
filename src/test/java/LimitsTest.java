import java.io.IOException;
import java.math.BigInteger;
import java.util.function.IntUnaryOperator;

/**
 * Each sentence of the document, but for its "Throws .. if ..", that names a limit or a case at the edge: what is just
 * inside, what is just outside, what is empty, what is full.
 */
public final class LimitsTest {

    private static final int NONE = -1;
    private static final int IN = 0;
    private static final int BIN = 1;
    private static final int FAR = Integer.MAX_VALUE;
    private static final int LOW = Integer.MIN_VALUE;

    private static final Due DUE = new Due();
    private static Document document;
    private static DovecoteMail mail;

    public static void main(String[] args) throws IOException {
        document = new Document();
        peopleAndFolders();
        messages();
        rules();
        timeGoes();
        threads();
        searches();
        calls();
        whatWouldBe();
        wholeObject();
        DUE.end("LimitsTest");
    }

    // ---- how it is told

    /** From here on this sentence is tested, on a new object. */
    private static void about(String sentence) {
        DUE.about(sentence);
        if (document.isThere()) {
            DUE.is(true, "stands in the document", () -> document.says(sentence));
        }
        mail = new DovecoteMail();
    }

    private static void is(Object want, String what, Due.Call call) {
        DUE.is(want, what, call);
    }

    private static void refused(String exception, String what, Due.Call call) {
        is("throws." + exception, what, call);
    }

    private static String each(int count, IntUnaryOperator answer) {
        StringBuilder text = new StringBuilder();
        for (int i = 0; i < count; i++) {
            text.append(i == 0 ? "" : " ").append(answer.applyAsInt(i));
        }
        return text.toString();
    }

    private static int send(int to, int subject) {
        return mail.send(9, to, subject, 0, 10, NONE);
    }

    /** With a SIZE of 1. */
    private static int sendSmall(int to) {
        return mail.send(9, to, 0, 0, 1, NONE);
    }

    /** What lies in the FOLDER, by NUMBERS. */
    private static String lies(int person, int folder) {
        return each(mail.ofFolder(person, folder, 1), k -> mail.at(person, folder, k));
    }

    /** What is told of a COPY: got, FOLDER, NUMBER, marks, STAMP. */
    private static String told(int person, int message) {
        return each(5, what -> mail.copy(person, message, what));
    }

    // ---- 1. people, folders

    private static void peopleAndFolders() {
        clockAtFirst();
        people();
        addresses();
        foldersOfBox();
        parents();
        below();
        ages();
    }

    private static void clockAtFirst() {
        about("The CLOCK is 0 at first.");
        mail.query(6, 0, 0);
        mail.query(6, 1, 0);
        send(1, 0);
        is("1 0", "sent at 0, not at 1", () -> each(2, query -> mail.finds(0, query)));
        refused("IllegalArgumentException", "setClock(0)", () -> mail.setClock(0));
        is(0, "setClock(1)", () -> mail.setClock(1));
        send(1, 0);
        is("2 1", "sent at 1", () -> each(2, query -> mail.finds(0, query)));
    }

    private static void people() {
        about("There are 4 PEOPLE, 0 to 3, each with a BOX");
        is("2 2 2 2", "FOLDERS", () -> each(4, mail::folders));
        mail.folder(3, IN);
        is("2 2 2 3", "FOLDERS", () -> each(4, mail::folders));
        send(8, 0);
        is("0 0 0 10", "FULL", () -> each(4, mail::full));
        refused("IndexOutOfBoundsException", "folders(4)", () -> mail.folders(4));
        refused("IndexOutOfBoundsException", "folders(-1)", () -> mail.folders(-1));
    }

    private static void addresses() {
        about("10 ADDRESSES, 0 to 9; 0 to 3 are those of the PEOPLE.");
        mail.setQuota(0, 1);
        for (int from = 0; from < 10; from++) {
            mail.send(from, 1, 0, 0, 2, NONE);
        }
        mail.send(0, 1, 0, 0, 2, NONE);
        mail.send(9, 1, 0, 0, 2, NONE);
        mail.send(9, 1, 0, 0, 1, NONE);
        is("2 1 1 1 1 1 1 1 1 2", "BOUNCES", () -> each(10, mail::bounces));
        is("1 -1 0 0 0", "REFUSED by 0 from 0 itself", () -> told(0, 0));
        refused("IndexOutOfBoundsException", "bounces(10)", () -> mail.bounces(10));
        refused("IndexOutOfBoundsException", "bounces(-1)", () -> mail.bounces(-1));
        refused("IllegalArgumentException", "FROM 10", () -> mail.send(10, 1, 0, 0, 1, NONE));
    }

    private static void foldersOfBox() {
        about("A BOX has at most 8 FOLDERS, numbered from 0: 0 is IN, 1 is the BIN (these are there)");
        is("2 3 4 5 6 7", "six more", () -> each(6, i -> mail.folder(1, IN)));
        refused("IllegalStateException", "a ninth", () -> mail.folder(1, IN));
        is(8, "folders(1)", () -> mail.folders(1));
        is("2 3 4 5 6 7", "six more in another BOX", () -> each(6, i -> mail.folder(2, IN)));
        is("2 8 8 2", "FOLDERS", () -> each(4, mail::folders));
        send(2, 0);
        is(0, "IN is 0", () -> mail.copy(1, 0, 1));
        mail.empty(1, 0);
        is(1, "the BIN is 1", () -> mail.copy(1, 0, 1));
        is("1 1", "NUMBERS in the BIN and in 7", () -> mail.copy(1, 0, 2) + " " + mail.move(1, 0, 7));
    }

    private static void parents() {
        about("each other one has a PARENT, a FOLDER of the BOX that is not the BIN, nor it itself, nor BELOW it");
        each(6, i -> mail.folder(0, i == 0 ? IN : i + 1));
        is("0 2 3 4 5 6", "each in the one before", () -> each(6, i -> mail.ofFolder(0, i + 2, 0)));
        is(6, "the last one goes to IN", () -> mail.nest(0, 7, IN));
        is(0, "and the first one into it", () -> mail.nest(0, 2, 7));
        is("7 2 3 4 5 0", "PARENTS", () -> each(6, i -> mail.ofFolder(0, i + 2, 0)));
        refused("IllegalArgumentException", "round and round", () -> mail.nest(0, 7, 6));
        is("2 3 4 5 0", "all to IN again", () -> each(5, i -> mail.nest(0, i + 3, IN)));
        is(7, "the last of them", () -> mail.nest(0, 2, IN));
        is("0 0 0 0 0 0", "PARENTS", () -> each(6, i -> mail.ofFolder(0, i + 2, 0)));
    }

    private static void below() {
        about("BELOW a FOLDER are those whose PARENT it is, and what is BELOW these.");
        each(6, i -> mail.folder(0, i == 0 ? IN : i + 1));
        for (int folder = 0; folder < 8; folder++) {
            sendSmall(1);
            mail.move(0, folder, folder);
        }
        is("7 1 6 5 4 3 2 1", "in it or BELOW it", () -> each(8, folder -> mail.ofFolder(0, folder, 5)));
        each(8, folder -> mail.query(5, folder, 0));
        is("7 1 6 5 4 3 2 1", "found in it or BELOW it", () -> each(8, query -> mail.finds(0, query)));
        mail.nest(0, 5, IN);
        is("7 1 3 2 1 3 2 1", "in it or BELOW it", () -> each(8, folder -> mail.ofFolder(0, folder, 5)));
        is("7 1 3 2 1 3 2 1", "found in it or BELOW it", () -> each(8, query -> mail.finds(0, query)));
    }

    private static void ages() {
        about("An AGE of a FOLDER is 0 (for ever, at first) or 1 to 200.");
        mail.folder(0, IN);
        mail.folder(0, IN);
        is("0 0 0 0", "at first", () -> each(4, folder -> mail.setAge(0, folder, 0)));
        for (int i = 0; i < 3; i++) {
            sendSmall(1);
        }
        mail.move(0, 1, 2);
        mail.move(0, 2, 3);
        mail.setAge(0, 2, 1);
        mail.setAge(0, 3, 200);
        mail.setClock(1);
        is("0 1 3", "AGE 1: after one tick", () -> each(3, message -> mail.copy(0, message, 1)));
        mail.setClock(199);
        is(3, "AGE 200: not after 199", () -> mail.copy(0, 2, 1));
        mail.setClock(200);
        is(BIN, "AGE 200: after 200", () -> mail.copy(0, 2, 1));
        mail.setClock(9999);
        is(IN, "AGE 0: for ever", () -> mail.copy(0, 0, 1));
    }

    // ---- 2. messages

    private static void messages() {
        messagesEver();
        whatMessagesHave();
        onceAtMost();
        numbers();
        gone();
        quota();
        stamps();
    }

    private static void messagesEver() {
        about("There are at most 60 MESSAGES ever, numbered from 0, as they are sent");
        for (int i = 0; i < 60; i++) {
            int number = i;
            is(number, "messages()", mail::messages);
            is(number, "send", () -> sendSmall(number % 2));
        }
        mail.empty(0, IN);
        mail.empty(0, BIN);
        refused("IllegalStateException", "the 61st, though all are GONE", () -> sendSmall(1));
        refused("IllegalStateException", "the 61st, to nobody", () -> sendSmall(0));
        is(60, "messages()", mail::messages);
        is("1 0 1", "got", () -> mail.copy(0, 59, 0) + " " + mail.copy(0, 58, 0) + " " + mail.copy(0, 1, 0));
    }

    private static void whatMessagesHave() {
        about("a SUBJECT, 0 to 99, a set of WORDS, 0 to 7, a SIZE, 1 to 50");
        mail.send(9, 1, 0, 1, 1, NONE);
        mail.send(9, 1, 99, 128, 50, NONE);
        int[][] queries = {{1, 0}, {1, 99}, {2, 0}, {2, 7}, {2, 1}, {2, 6}, {3, 1}, {3, 2}, {3, 50}};
        each(queries.length, i -> mail.query(queries[i][0], queries[i][1], 0));
        is("1 1 1 1 0 0 2 1 1", "finds", () -> each(queries.length, query -> mail.finds(0, query)));
        is("0 1 0 1", "found", () -> each(4, query -> mail.found(0, query, 0)));
        is(51, "full(0)", () -> mail.full(0));
        about("maybe an earlier MESSAGE that it ANSWERS");
        refused("IndexOutOfBoundsException", "itself", () -> mail.send(0, 1, 0, 0, 1, 0));
        is(0, "none", () -> mail.send(0, 1, 0, 0, 1, NONE));
        is(1, "the one before", () -> mail.send(0, 1, 1, 0, 1, 0));
        is(2, "the first one", () -> mail.send(0, 1, 2, 0, 1, 0));
        refused("IndexOutOfBoundsException", "itself", () -> mail.send(0, 1, 0, 0, 1, 3));
        is("0 1 1", "steps", () -> each(3, message -> mail.ofThread(0, message, 3)));
    }

    private static void onceAtMost() {
        about("A PERSON gets each MESSAGE once at most");
        for (int person = 0; person < 4; person++) {
            for (int to = 0; to < 4; to++) {
                if (to != person) {
                    mail.rule(person, 4, 0, true, 3, to, false);
                }
            }
        }
        for (int to = 1; to < 16; to++) {
            int set = to;
            is(15, "wouldGet(" + set + ")", () -> mail.wouldGet(set, 9, 0, 0, 1));
            int message = sendSmall(set);
            is("1 1 1 1", "got", () -> each(4, person -> mail.copy(person, message, 0)));
            is(to + " " + to + " " + to + " " + to, "FULL", () -> each(4, mail::full));
            is(to * 4, "stamp()", mail::stamp);
        }
        is(0, "to nobody", () -> mail.wouldGet(0, 9, 0, 0, 1));
        sendSmall(0);
        is(60, "stamp()", mail::stamp);
    }

    private static void numbers() {
        about("for each FOLDER they go on from 1, never used again, one for each COPY that comes to lie in it");
        mail.folder(0, IN);
        is("1 1 1", "the next NUMBERS at first", () -> each(3, folder -> mail.ofFolder(0, folder, 4)));
        send(1, 0);
        send(1, 1);
        is("3 1 1", "the next NUMBERS", () -> each(3, folder -> mail.ofFolder(0, folder, 4)));
        is("1 3 2 4", "there and back", () -> mail.move(0, 1, 2) + " " + mail.move(0, 1, IN) + " "
                + mail.move(0, 1, 2) + " " + mail.move(0, 1, IN));
        is("5 1 3", "the next NUMBERS", () -> each(3, folder -> mail.ofFolder(0, folder, 4)));
        is(4, "where it lies", () -> mail.move(0, 1, IN));
        mail.empty(0, IN);
        mail.empty(0, BIN);
        is("5 3 3", "the next NUMBERS, as all are GONE", () -> each(3, folder -> mail.ofFolder(0, folder, 4)));
        send(1, 2);
        is("1 0 5 0 9", "the next one", () -> told(0, 2));
        send(2, 3);
        is("1 0 1 0 10", "another BOX goes on from 1 by itself", () -> told(1, 3));
        mail.setQuota(0, 10);
        send(1, 4);
        is(6, "none for what is REFUSED", () -> mail.ofFolder(0, IN, 4));
    }

    private static void gone() {
        about("A COPY that is GONE does not come back.");
        mail.rule(1, 4, 0, true, 3, 0, false);
        mail.query(6, 0, 0);
        send(1, 0);
        mail.mark(0, 0, 0, true);
        mail.empty(0, IN);
        mail.empty(0, BIN);
        is("1 -1 0 0 0", "what is told of it", () -> told(0, 0));
        refused("IndexOutOfBoundsException", "move", () -> mail.move(0, 0, IN));
        refused("IndexOutOfBoundsException", "mark", () -> mail.mark(0, 0, 0, false));
        refused("IndexOutOfBoundsException", "ofThread", () -> mail.ofThread(0, 0, 0));
        mail.setClock(1);
        send(2, 1);
        is("-1 1 1 10 3 1", "IN, with the next MESSAGE alone", () -> each(6, what -> mail.ofFolder(0, IN, what)));
        is("-1 0 0 0 2 0", "the BIN", () -> each(6, what -> mail.ofFolder(0, BIN, what)));
        is("10 1 1 1", "FULL, THREADS, what is found", () -> mail.full(0) + " " + mail.threads(0) + " "
                + mail.finds(0, 0) + " " + mail.found(0, 0, 0));
        is("1 -1 0 0 0", "what is told of it then", () -> told(0, 0));
        is(0, "there is nothing more to be GONE", () -> mail.empty(0, BIN));
    }

    private static void quota() {
        about("its QUOTA is 1 to 2000 (200, at first)");
        for (int i = 0; i < 4; i++) {
            mail.send(9, 1, 0, 0, 50, NONE);
        }
        is("200 0", "200 at first: up to that", () -> mail.full(0) + " " + mail.bounces(9));
        sendSmall(1);
        is("200 1", "200 at first: and no more", () -> mail.full(0) + " " + mail.bounces(9));
        mail.setQuota(0, 201);
        sendSmall(1);
        is("201 1", "one more", () -> mail.full(0) + " " + mail.bounces(9));
        mail.setQuota(1, 1);
        sendSmall(2);
        sendSmall(2);
        is("1 2", "1: one, and no more", () -> mail.full(1) + " " + mail.bounces(9));
        mail.setQuota(2, 2000);
        for (int i = 0; i < 39; i++) {
            mail.send(9, 4, 0, 0, 50, NONE);
        }
        mail.send(9, 4, 0, 0, 49, NONE);
        is("1999 2", "2000: one is left", () -> mail.full(2) + " " + mail.bounces(9));
        mail.send(9, 4, 0, 0, 2, NONE);
        is("1999 3", "2000: not two", () -> mail.full(2) + " " + mail.bounces(9));
        sendSmall(4);
        is("2000 3", "2000: up to that", () -> mail.full(2) + " " + mail.bounces(9));
        mail.setQuota(2, 1);
        is("2000 41 0", "what lies there stays", () -> mail.full(2) + " " + mail.ofFolder(2, IN, 1) + " "
                + mail.setClock(9999));
    }

    private static void stamps() {
        about("Each change of a COPY (that it comes, is moved, or marked otherwise than it was) is given a STAMP: 1, 2, 3"
                + " and so on, over all BOXES; a COPY has the latest one of its own.");
        mail.folder(0, IN);
        send(15, 0);
        is("1 2 3 4", "it comes", () -> each(4, person -> mail.copy(person, 0, 4)));
        mail.move(3, 0, BIN);
        is("1 2 3 5", "it is moved", () -> each(4, person -> mail.copy(person, 0, 4)));
        mail.mark(1, 0, 1, true);
        is("1 6 3 5", "it is marked", () -> each(4, person -> mail.copy(person, 0, 4)));
        mail.mark(1, 0, 1, true);
        mail.mark(1, 0, 0, false);
        mail.move(0, 0, IN);
        mail.empty(0, 2);
        mail.setAge(0, IN, 1);
        mail.nest(0, 2, IN);
        is("1 6 3 5", "none for what is as it was", () -> each(4, person -> mail.copy(person, 0, 4)));
        is(6, "stamp()", mail::stamp);
        mail.mark(1, 0, 1, false);
        mail.setClock(1);
        is("8 7 3 5", "it grows old", () -> each(4, person -> mail.copy(person, 0, 4)));
        mail.empty(0, BIN);
        mail.setClock(20);
        is("0 7 3 0", "none for what is GONE", () -> each(4, person -> mail.copy(person, 0, 4)));
        is(8, "stamp()", mail::stamp);
        mail.setQuota(0, 9);
        send(1, 0);
        mail.rule(0, 4, 0, true, 4, 0, false);
        sendSmall(1);
        sendSmall(0);
        is(8, "none for what is not kept", mail::stamp);
        mail.unrule(0, 0);
        mail.rule(0, 4, 0, true, 1, 0, false);
        mail.rule(0, 4, 0, true, 2, 0, false);
        mail.rule(0, 4, 0, true, 0, 2, false);
        int message = sendSmall(1);
        is("1 2 1 3 9", "with one STAMP, though put and marked", () -> told(0, message));
    }

    // ---- 3. rules

    private static void rules() {
        rulesAtMost();
        rulesAsk();
        rulesDo();
        comesTo();
        lastOnes();
        thrownAway();
        refusedOnes();
        latestRule();
    }

    private static void rulesAtMost() {
        about("A PERSON has at most 6 RULES, in order.");
        each(6, i -> mail.folder(0, IN));
        is("1 2 3 4 5 6", "RULES then", () -> each(6, i -> mail.rule(0, 4, 0, true, 0, i + 2, false)));
        refused("IllegalStateException", "a seventh", () -> mail.rule(0, 4, 0, true, 0, IN, false));
        is(7, "the sixth one is done", () -> mail.wouldLie(0, 0, 0, 0, 1));
        is(1, "another PERSON has room", () -> mail.rule(1, 4, 0, true, 0, IN, false));
        is(5, "unrule(0, 5)", () -> mail.unrule(0, 5));
        is(6, "the fifth one is done", () -> mail.wouldLie(0, 0, 0, 0, 1));
        is(6, "there is room again", () -> mail.rule(0, 4, 0, true, 0, 2, false));
        is(2, "behind the others", () -> mail.wouldLie(0, 0, 0, 0, 1));
    }

    /** 1 or 0 for each of the letters: whether a RULE that asks this holds. */
    private static String holding(int asks, int a, boolean isNot, int[][] letters) {
        mail = new DovecoteMail();
        mail.rule(0, asks, a, isNot, 0, BIN, false);
        return each(letters.length, i -> mail.wouldLie(0, letters[i][0], letters[i][1], letters[i][2], letters[i][3]));
    }

    private static void rulesAsk() {
        about("Each asks: 0 FROM is a, 1 the SUBJECT is a, 2 the WORD a is in it, 3 the SIZE is at least a, 4 it ANSWERS a"
                + " MESSAGE (a is not looked at); or just that this is not so");
        int[][] letters = {{0, 99, 1, 1}, {9, 0, 128, 50}, {8, 98, 254, 49}, {1, 1, 127, 2}, {5, 50, 0, 25}};
        is("1 0 0 0 0", "FROM 0", () -> holding(0, 0, false, letters));
        is("0 1 0 0 0", "FROM 9", () -> holding(0, 9, false, letters));
        is("1 0 1 1 1", "not FROM 9", () -> holding(0, 9, true, letters));
        is("0 1 0 0 0", "SUBJECT 0", () -> holding(1, 0, false, letters));
        is("1 0 0 0 0", "SUBJECT 99", () -> holding(1, 99, false, letters));
        is("0 1 1 1 1", "not SUBJECT 99", () -> holding(1, 99, true, letters));
        is("1 0 0 1 0", "WORD 0", () -> holding(2, 0, false, letters));
        is("0 1 1 0 0", "WORD 7", () -> holding(2, 7, false, letters));
        is("1 0 0 1 1", "not WORD 7", () -> holding(2, 7, true, letters));
        is("1 1 1 1 1", "SIZE at least 1", () -> holding(3, 1, false, letters));
        is("0 1 1 1 1", "SIZE at least 2", () -> holding(3, 2, false, letters));
        is("0 1 0 0 0", "SIZE at least 50", () -> holding(3, 50, false, letters));
        is("1 0 1 1 1", "not SIZE at least 50", () -> holding(3, 50, true, letters));
        is("0 0 0 0 0", "not SIZE at least 1", () -> holding(3, 1, true, letters));
        is("0 0 0 0 0", "ANSWERS", () -> holding(4, LOW, false, letters));
        is("1 1 1 1 1", "not ANSWERS", () -> holding(4, FAR, true, letters));
        mail = new DovecoteMail();
        mail.rule(0, 4, LOW, false, 0, BIN, false);
        sendSmall(2);
        mail.send(9, 1, 0, 0, 1, 0);
        sendSmall(1);
        is("-1 1 0", "ANSWERS the first MESSAGE, which was not got", () -> each(3, message -> mail.copy(0, message, 1)));
    }

    private static void rulesDo() {
        about("does: 0 it is put into the FOLDER b, 1 it is STARRED, 2 it is SEEN, 3 it goes on to the PERSON b, 4 it is"
                + " thrown away (b is not looked at with 1, 2 and 4)");
        each(6, i -> mail.folder(3, IN));
        int[][] deeds = {{0, IN}, {0, BIN}, {0, 7}, {1, FAR}, {2, LOW}, {3, 0}, {3, 2}, {4, -5}};
        String[] due = {"1 0 1 0 1", "1 1 1 0 2", "1 7 1 0 3", "1 0 2 2 4", "1 0 3 1 5", "1 0 4 0 6", "1 0 5 0 8",
            "1 -1 0 0 0"};
        for (int i = 0; i < deeds.length; i++) {
            int number = i;
            mail.rule(3, 0, 4, false, deeds[i][0], deeds[i][1], true);
            mail.send(4, 8, i, 0, 1, NONE);
            is(due[i], "does " + deeds[i][0] + ", b " + deeds[i][1], () -> told(3, number));
            mail.unrule(3, 0);
        }
        is("0 0 0 0 0 1 0 0", "what went on to 0", () -> each(8, message -> mail.copy(0, message, 0)));
        is("0 0 0 0 0 0 1 0", "what went on to 2", () -> each(8, message -> mail.copy(2, message, 0)));
    }

    private static void comesTo() {
        about("A MESSAGE comes to the PEOPLE in TO, by their numbers, then to those to whom it goes on, in the order in"
                + " which that was done.");
        mail.rule(3, 4, 0, true, 3, 2, false);
        mail.rule(2, 4, 0, true, 3, 1, false);
        mail.rule(1, 4, 0, true, 3, 0, false);
        send(8, 0);
        is("4 3 2 1", "from 3 down to 0", () -> each(4, person -> mail.copy(person, 0, 4)));
        send(9, 0);
        is("5 8 7 6", "0 and 3, then 2, then 1", () -> each(4, person -> mail.copy(person, 1, 4)));
        send(10, 0);
        is("11 9 12 10", "1 and 3, then 0, then 2", () -> each(4, person -> mail.copy(person, 2, 4)));
        send(15, 0);
        is("13 14 15 16", "all of them, by numbers", () -> each(4, person -> mail.copy(person, 3, 4)));
        send(0, 0);
        is("0 0 0 0", "none of them", () -> each(4, person -> mail.copy(person, 4, 0)));
        mail.rule(3, 4, 0, true, 3, 0, false);
        send(8, 0);
        is("19 20 18 17", "2, then 0, which 3 did, then 1, which 2 did", () -> each(4, person -> mail.copy(person, 5, 4)));
        about("As it comes to a PERSON who got it already, nothing happens.");
        mail.rule(0, 4, 0, true, 3, 1, false);
        mail.rule(1, 4, 0, true, 3, 0, false);
        mail.setQuota(1, 9);
        send(1, 0);
        is("1 1", "there and back: one STAMP, one of the BOUNCES", () -> mail.stamp() + " " + mail.bounces(9));
        send(3, 0);
        is("2 2", "both in TO: one STAMP, one of the BOUNCES", () -> mail.stamp() + " " + mail.bounces(9));
        is("20 0 0 0", "FULL", () -> each(4, mail::full));
    }

    private static void lastOnes() {
        about("all RULES that hold are done, in order, up to a LAST one that holds, that one, too.");
        each(6, i -> mail.folder(0, IN));
        for (int word = 0; word < 6; word++) {
            mail.rule(0, 2, word, false, 0, word + 2, word == 0 || word == 3 || word == 5);
        }
        int[][] rows = {{0, IN}, {1, 2}, {2, 3}, {6, 4}, {8, 5}, {14, 5}, {30, 5}, {62, 5}, {63, 2}, {48, 7}, {22, 6},
            {54, 7}, {192, IN}};
        for (int[] row : rows) {
            is(row[1], "with WORDS " + row[0], () -> mail.wouldLie(0, 9, 0, row[0], 1));
        }
    }

    private static void thrownAway() {
        about("Then (it goes on all the same): if it is thrown away, that is all.");
        mail.setQuota(0, 1);
        mail.rule(0, 4, 0, true, 4, 0, false);
        mail.rule(0, 4, 0, true, 1, 0, false);
        mail.rule(0, 4, 0, true, 0, BIN, false);
        mail.rule(0, 4, 0, true, 3, 2, true);
        mail.rule(0, 4, 0, true, 3, 3, false);
        send(1, 0);
        is("1 -1 0 0 0", "got, and that is all", () -> told(0, 0));
        is("0 0 10 0", "it went on to 2, not to 3", () -> each(4, mail::full));
        is("0 1 1", "BOUNCES, STAMP, the next NUMBER of the BIN",
                () -> mail.bounces(9) + " " + mail.stamp() + " " + mail.ofFolder(0, BIN, 4));
        is(-1, "thrown away rather than REFUSED", () -> mail.wouldLie(0, 9, 0, 0, 50));
    }

    private static void refusedOnes() {
        about("If FULL and its SIZE together are above QUOTA, it is REFUSED, and the BOUNCES of the ADDRESS FROM are 1 more.");
        mail.setQuota(0, 20);
        mail.rule(0, 4, 0, true, 3, 1, false);
        mail.rule(1, 4, 0, true, 3, 2, false);
        mail.setQuota(1, 5);
        send(1, 0);
        is("10 0 10 0", "REFUSED by 1, it goes on to 2", () -> each(4, mail::full));
        is(1, "bounces(9)", () -> mail.bounces(9));
        is("1 -1 0 0 0", "got, but no COPY", () -> told(1, 0));
        mail.send(9, 1, 0, 0, 11, NONE);
        is("10 3", "one above QUOTA", () -> mail.full(0) + " " + mail.bounces(9));
        mail.send(9, 1, 0, 0, 10, NONE);
        is("20 4", "QUOTA itself", () -> mail.full(0) + " " + mail.bounces(9));
        for (int person = 1; person < 4; person++) {
            mail.setQuota(person, 1);
        }
        mail.send(8, 15, 0, 0, 2, NONE);
        is(4, "by each of the four", () -> mail.bounces(8));
        mail.move(0, 0, BIN);
        mail.send(7, 1, 0, 0, 6, NONE);
        is(3, "what is in the BIN counts", () -> mail.bounces(7));
        mail.empty(0, BIN);
        mail.send(7, 1, 0, 0, 10, NONE);
        is("20 5", "what is GONE does not", () -> mail.full(0) + " " + mail.bounces(7));
        mail.setQuota(0, 19);
        sendSmall(1);
        is(20, "FULL is above QUOTA", () -> mail.full(0));
    }

    private static void latestRule() {
        about("in the FOLDER into which it was put by the latest RULE that did so (in IN without any), with one STAMP");
        mail.folder(0, IN);
        mail.rule(0, 2, 0, false, 0, 2, false);
        mail.rule(0, 2, 1, false, 0, IN, false);
        mail.rule(0, 2, 2, false, 0, BIN, false);
        mail.rule(0, 2, 3, false, 1, 0, false);
        int[] due = {IN, 2, IN, IN, BIN, BIN, BIN, BIN, IN, 2};
        for (int words = 0; words < due.length; words++) {
            int message = mail.send(9, 1, words, words, 1, NONE);
            is(due[words], "with WORDS " + words, () -> mail.copy(0, message, 1));
            is(words + 1, "stamp()", mail::stamp);
        }
    }

    // ---- 4. as time goes

    private static void timeGoes() {
        linger();
        ageing();
        ageingOrder();
    }

    private static void linger() {
        about("first each COPY in the BIN that came to lie there LINGER ticks ago or earlier is GONE (LINGER is 1 to 100;"
                + " 20, at first)");
        mail.rule(0, 1, 7, false, 0, BIN, false);
        send(1, 0);
        mail.setClock(5);
        mail.move(0, 0, BIN);
        send(1, 7);
        is(0, "20 at first: 19 ticks ago", () -> mail.setClock(24));
        is(2, "20 at first: 20 ticks ago", () -> mail.setClock(25));
        is("1 -1 0 0 0", "GONE", () -> told(0, 0));
        mail.setLinger(1, 10);
        send(1, 7);
        is(BIN, "what came then is there", () -> mail.copy(0, 2, 1));
        is(1, "1: a tick ago", () -> mail.setClock(26));
        mail.setLinger(100, 10);
        send(1, 7);
        send(1, 7);
        is(0, "100: 99 ticks ago", () -> mail.setClock(125));
        mail.move(0, 4, BIN);
        mail.move(0, 4, IN);
        mail.move(0, 4, BIN);
        is(1, "100: 100 ticks ago; the other one came later", () -> mail.setClock(126));
        is(BIN, "the other one", () -> mail.copy(0, 4, 1));
        mail.setLinger(2, 10);
        is(1, "LINGER as it is then", () -> mail.setClock(127));
        is(0, "nothing is left", () -> mail.setClock(9999));
    }

    private static void ageing() {
        about("then each COPY that is not STARRED, in a FOLDER but the BIN with an AGE above 0, whose MESSAGE was sent that"
                + " many ticks ago or earlier, is moved to the BIN");
        mail.setLinger(100, 10);
        mail.folder(0, IN);
        mail.setClock(4);
        for (int i = 0; i < 4; i++) {
            send(1, i);
        }
        mail.mark(0, 1, 1, true);
        mail.mark(0, 2, 0, true);
        mail.setClock(8);
        mail.move(0, 3, 2);
        mail.setAge(0, 2, 10);
        mail.setAge(0, BIN, 1);
        mail.setClock(13);
        is("0 0 0 2", "a tick too early", () -> each(4, message -> mail.copy(0, message, 1)));
        mail.setClock(14);
        is("0 0 0 1", "since it was sent, not since it came there", () -> each(4, message -> mail.copy(0, message, 1)));
        mail.setAge(0, IN, 1);
        is("0 0 0 1", "only as the CLOCK is set", () -> each(4, message -> mail.copy(0, message, 1)));
        mail.setClock(15);
        is("1 0 1 1", "but the STARRED one", () -> each(4, message -> mail.copy(0, message, 1)));
        is("2 1 3", "NUMBERS in the BIN", () -> mail.copy(0, 0, 2) + " " + mail.copy(0, 3, 2) + " " + mail.copy(0, 2, 2));
        is(1, "in the BIN it is GONE, not moved", () -> mail.setClock(114));
        mail.mark(0, 1, 1, false);
        is(2, "it is not STARRED any more", () -> mail.setClock(115));
        is("-1 1 -1 -1", "FOLDERS", () -> each(4, message -> mail.copy(0, message, 1)));
    }

    private static void ageingOrder() {
        about("is moved to the BIN, by FOLDERS, in each by NUMBERS");
        mail.setLinger(1, 10);
        each(2, i -> mail.folder(0, IN));
        for (int i = 0; i < 6; i++) {
            send(3, i);
        }
        mail.move(0, 0, 3);
        mail.move(0, 5, 2);
        mail.move(0, 4, 2);
        mail.move(0, 1, 2);
        mail.move(0, 1, IN);
        each(4, folder -> mail.setAge(0, folder, 2));
        mail.setAge(1, IN, 2);
        int stamp = mail.stamp();
        is(0, "moved, but not GONE by the same call", () -> mail.setClock(9000));
        is("2 3 1 5 4 0", "by FOLDERS, in each by NUMBERS", () -> lies(0, BIN));
        is("0 1 2 3 4 5", "of another BOX", () -> lies(1, BIN));
        is("6 3 1 2 5 4", "STAMPS", () -> each(6, message -> mail.copy(0, message, 4) - stamp));
        is("7 8 9 10 11 12", "STAMPS of another BOX", () -> each(6, message -> mail.copy(1, message, 4) - stamp));
        is(12, "all are GONE by the next one", () -> mail.setClock(9001));
        mail = new DovecoteMail();
        for (int i = 0; i < 60; i++) {
            sendSmall(1);
        }
        mail.setAge(0, IN, 200);
        mail.setClock(200);
        is("0 60 120", "60 at once", () -> mail.ofFolder(0, IN, 1) + " " + mail.ofFolder(0, BIN, 1) + " "
                + mail.stamp());
        is(60, "all of them are GONE at once", () -> mail.setClock(220));
        about("first each COPY in the BIN that came to lie there LINGER ticks ago or earlier is GONE");
        mail.setLinger(5, 10);
        send(1, 0);
        send(1, 1);
        mail.move(0, 0, BIN);
        mail.mark(0, 0, 1, true);
        mail.setAge(0, IN, 5);
        is(1, "what lay there, STARRED or not", () -> mail.setClock(5));
        is("-1 1", "FOLDERS", () -> each(2, message -> mail.copy(0, message, 1)));
        is(0, "it came to lie there at 5", () -> mail.setClock(9));
        is(1, "5 ticks ago", () -> mail.setClock(10));
    }

    // ---- 5. threads, searches

    private static void threads() {
        windows();
        threadsJoin();
        roots();
        steps();
    }

    /** How many THREADS two MESSAGES of one SUBJECT are with this WINDOW, the second one sent so many ticks later. */
    private static int threadsApart(int window, int ticks) {
        mail = new DovecoteMail();
        if (window != 10) {
            mail.setLinger(20, window);
        }
        send(1, 99);
        if (ticks > 0) {
            mail.setClock(ticks);
        }
        send(1, 99);
        return mail.threads(0);
    }

    private static void windows() {
        about("or both have the same SUBJECT and were sent at most WINDOW ticks apart (WINDOW is 0 to 50; 10, at first)");
        is(1, "10 at first: 10 ticks", () -> threadsApart(10, 10));
        is(2, "10 at first: 11 ticks", () -> threadsApart(10, 11));
        is(1, "0: at the same time", () -> threadsApart(0, 0));
        is(2, "0: one tick", () -> threadsApart(0, 1));
        is(1, "50: 50 ticks", () -> threadsApart(50, 50));
        is(2, "50: 51 ticks", () -> threadsApart(50, 51));
        send(1, 98);
        is(3, "at the same time, but another SUBJECT", () -> mail.threads(0));
        mail.setLinger(20, 0);
        is(3, "WINDOW as it is then", () -> mail.threads(0));
    }

    private static void threadsJoin() {
        about("two COPIES are beside each other, if the MESSAGE of one ANSWERS that of the other one");
        mail.setLinger(20, 0);
        mail.send(9, 3, 1, 0, 1, NONE);
        mail.setClock(9999);
        mail.send(9, 3, 2, 0, 1, 0);
        is("1 1 0 0", "however far apart", () -> each(4, mail::threads));
        mail.send(9, 1, 3, 0, 1, NONE);
        mail.send(9, 3, 4, 0, 1, 2);
        is("2 2 0 0", "only where there are COPIES of both", () -> each(4, mail::threads));
        about("A THREAD are COPIES of which one comes from each to each other.");
        is(0, "threads(0) without any", () -> mail.threads(0));
        sendSmall(1);
        is(1, "threads(0) with one", () -> mail.threads(0));
        is("0 1 1 0", "of the one", () -> each(4, what -> mail.ofThread(0, 0, what)));
        for (int i = 1; i < 60; i++) {
            mail.send(9, i % 2 + 1, i, 0, 1, NONE);
        }
        is("30 30 0 0", "each alone", () -> each(4, mail::threads));
        mail = new DovecoteMail();
        mail.setLinger(20, 1);
        for (int i = 0; i < 60; i++) {
            sendSmall(1);
            mail.setClock(i + 1);
        }
        is(1, "60, each a tick behind the one before", () -> mail.threads(0));
        is("0 60 60 0", "of the last one", () -> each(4, what -> mail.ofThread(0, 59, what)));
        mail.move(0, 30, BIN);
        is(1, "what is in the BIN joins them, too", () -> mail.threads(0));
        mail.empty(0, BIN);
        is(2, "what is GONE does not", () -> mail.threads(0));
        is("0 30 30 0", "of the one before", () -> each(4, what -> mail.ofThread(0, 29, what)));
        is("31 29 29 0", "of the one behind", () -> each(4, what -> mail.ofThread(0, 59, what)));
    }

    private static void roots() {
        about("Its ROOT is the one of the smallest MESSAGE.");
        for (int i = 0; i < 4; i++) {
            mail.send(9, 1, i, 0, 1, NONE);
        }
        mail.send(9, 1, 3, 0, 1, 0);
        mail.send(9, 1, 2, 0, 1, 3);
        is("0 1 0 0 0 0", "ROOTS", () -> each(6, message -> mail.ofThread(0, message, 0)));
        is("5 1 5 5 5 5", "COPIES", () -> each(6, message -> mail.ofThread(0, message, 1)));
        mail.mark(0, 5, 0, true);
        mail.mark(0, 0, 0, true);
        mail.mark(0, 1, 1, true);
        is("3 1 3 3 3 3", "not SEEN", () -> each(6, message -> mail.ofThread(0, message, 2)));
        mail.move(0, 0, BIN);
        mail.empty(0, BIN);
        is("1 2 2 2 2", "the next one, as the ROOT is GONE", () -> each(5, i -> mail.ofThread(0, i + 1, 0)));
        is("1 4 4 4 4", "COPIES", () -> each(5, i -> mail.ofThread(0, i + 1, 1)));
    }

    private static void steps() {
        about("3 how many times one goes from it to the MESSAGE that it ANSWERS, from there likewise, and so on, as long as"
                + " there is a COPY of that in the BOX");
        mail.send(9, 3, 0, 0, 1, NONE);
        for (int i = 1; i < 60; i++) {
            mail.send(9, i == 20 ? 1 : 3, i, 0, 1, i - 1);
        }
        is("0 59 0 38", "the first and the last one", () -> mail.ofThread(0, 0, 3) + " " + mail.ofThread(0, 59, 3) + " "
                + mail.ofThread(1, 21, 3) + " " + mail.ofThread(1, 59, 3));
        mail.move(0, 10, BIN);
        is("59 49", "the BIN is in the BOX", () -> mail.ofThread(0, 59, 3) + " " + mail.ofThread(0, 49, 3));
        mail.empty(0, BIN);
        is("9 0 48", "one is GONE", () -> mail.ofThread(0, 9, 3) + " " + mail.ofThread(0, 11, 3) + " "
                + mail.ofThread(0, 59, 3));
    }

    private static void searches() {
        queriesAtMost();
        kinds();
        searchOrder();
    }

    private static void queriesAtMost() {
        about("QUERIES: at most 20, numbered from 0; those that are named in one have smaller numbers");
        refused("IllegalArgumentException", "the first, NOT itself", () -> mail.query(7, 0, 0));
        is(0, "the first", () -> mail.query(6, 0, 0));
        for (int i = 1; i < 20; i++) {
            int number = i;
            refused("IllegalArgumentException", "NOT itself", () -> mail.query(7, number, 0));
            refused("IllegalArgumentException", "BOTH with itself", () -> mail.query(8, 0, number));
            is(number, "NOT the one before", () -> mail.query(7, number - 1, FAR));
        }
        refused("IllegalStateException", "the 21st", () -> mail.query(7, 0, 0));
        send(1, 0);
        is("1 0 1 0 1 0 1 0 1 0 1 0 1 0 1 0 1 0 1 0", "finds", () -> each(20, query -> mail.finds(0, query)));
        is(0, "found by the 19th", () -> mail.found(0, 18, 0));
        refused("IndexOutOfBoundsException", "found by the 20th", () -> mail.found(0, 19, 0));
        mail = new DovecoteMail();
        mail.query(6, 0, 0);
        for (int i = 1; i < 20; i++) {
            mail.query(8 + i % 2, i - 1, i - 1);
        }
        send(1, 0);
        is(1, "twice the same, down from the 20th", () -> mail.finds(0, 19));
    }

    private static void kinds() {
        about("0 FROM is a; 1 the SUBJECT is a; 2 the WORD a is in it; 3 the SIZE is at least a; 4 it is SEEN (a 0) or"
                + " STARRED (a 1); 5 it lies in the FOLDER a, or BELOW that; 6 it was sent at a or later; 7 NOT the QUERY a;"
                + " 8 BOTH a and b; 9 EITHER a or b, or both.");
        mail.folder(0, IN);
        mail.send(0, 1, 0, 1, 1, NONE);
        mail.setClock(7);
        mail.send(9, 1, 99, 128, 50, NONE);
        mail.send(8, 1, 98, 127, 49, NONE);
        mail.mark(0, 0, 0, true);
        mail.mark(0, 1, 1, true);
        mail.move(0, 1, 2);
        mail.move(0, 2, BIN);
        int[][] rows = {{0, 0, 0, 1}, {0, 9, 0, 2}, {1, 0, 0, 1}, {1, 99, 0, 2}, {2, 0, 0, 5}, {2, 7, 0, 2}, {3, 1, 0, 7},
            {3, 50, 0, 2}, {3, 49, 0, 6}, {4, 0, 0, 1}, {4, 1, 0, 2}, {5, IN, 0, 3}, {5, BIN, 0, 4}, {5, 2, 0, 2},
            {5, 7, 0, 0}, {6, 0, 0, 7}, {6, 7, 0, 6}, {6, 8, 0, 0}, {6, FAR, 0, 0}};
        checkKinds(rows);
        mail = new DovecoteMail();
        mail.send(1, 1, 0, 0, 1, NONE);
        mail.send(1, 1, 5, 0, 1, NONE);
        mail.send(2, 1, 5, 0, 1, NONE);
        mail.send(2, 1, 0, 0, 1, NONE);
        int[][] named = {{0, 1, 0, 3}, {1, 5, 0, 6}, {7, 0, 0, 12}, {7, 2, 1, 3}, {8, 0, 1, 2}, {8, 1, 0, 2}, {9, 0, 1, 7},
            {9, 1, 0, 7}, {8, 0, 2, 0}, {9, 0, 2, 15}, {8, 1, 1, 6}, {9, 2, 2, 12}};
        checkKinds(named);
    }

    /** Each row: kind, a, b, and the set of what is found in the BOX of 0. */
    private static void checkKinds(int[][] rows) {
        for (int i = 0; i < rows.length; i++) {
            int query = i;
            mail.query(rows[i][0], rows[i][1], rows[i][2]);
            is(rows[i][3], "kind " + rows[i][0] + ", a " + rows[i][1] + ", b " + rows[i][2], () -> setFound(query));
        }
    }

    private static int setFound(int query) {
        int set = 0;
        for (int k = 0; k < mail.finds(0, query); k++) {
            set |= 1 << mail.found(0, query, k);
        }
        return set;
    }

    private static void searchOrder() {
        about("A search in a BOX finds all COPIES for which a QUERY holds, the latest MESSAGE first.");
        mail.query(6, 0, 0);
        is(0, "finds(0, 0) without any", () -> mail.finds(0, 0));
        for (int i = 0; i < 60; i++) {
            sendSmall(i % 20 == 0 ? 2 : 1);
        }
        is("57 3", "finds", () -> mail.finds(0, 0) + " " + mail.finds(1, 0));
        is("40 20 0", "found", () -> each(3, k -> mail.found(1, 0, k)));
        is("59 1", "the first and the last one", () -> mail.found(0, 0, 0) + " " + mail.found(0, 0, 56));
        mail.move(1, 40, BIN);
        mail.move(1, 0, BIN);
        mail.move(1, 0, IN);
        is("40 20 0", "not by NUMBERS, and with the BIN", () -> each(3, k -> mail.found(1, 0, k)));
        mail.empty(1, BIN);
        is("20 0", "without what is GONE", () -> each(mail.finds(1, 0), k -> mail.found(1, 0, k)));
    }

    // ---- what single calls say

    private static void calls() {
        newObject();
        unruling();
        ofFolders();
        marking();
        moving();
        emptying();
        copies();
        since();
        means();
    }

    private static void newObject() {
        about("Creates a store with empty BOXES.");
        is("0 0", "messages() and stamp()", () -> mail.messages() + " " + mail.stamp());
        is("0 0 0 0 0 0 0 0 0 0", "BOUNCES", () -> each(10, mail::bounces));
        for (int p = 0; p < 4; p++) {
            int person = p;
            is("-1 0 0 0 1 0", "IN", () -> each(6, what -> mail.ofFolder(person, IN, what)));
            is("-1 0 0 0 1 0", "the BIN", () -> each(6, what -> mail.ofFolder(person, BIN, what)));
            is("2 0 0 0.0", "of " + person, () -> mail.folders(person) + " " + mail.full(person) + " "
                    + mail.threads(person) + " " + mail.meanSize(person));
            is("0 0", "empty", () -> mail.empty(person, IN) + " " + mail.empty(person, BIN));
            is(0, "wouldAge", () -> mail.wouldAge(person, 9999));
        }
        about("Returns the latest STAMP; 0 without any.");
        is(0, "stamp()", mail::stamp);
        sendSmall(0);
        is(0, "stamp(), to nobody", mail::stamp);
        sendSmall(1);
        is(1, "stamp()", mail::stamp);
    }

    private static void unruling() {
        about("Takes a RULE away; those behind it move up.");
        each(6, i -> mail.folder(0, IN));
        for (int i = 0; i < 6; i++) {
            mail.rule(0, 4, 0, true, 0, i + 2, i == 4);
        }
        is("6 5", "the LAST one is done; the one behind it is taken away",
                () -> mail.wouldLie(0, 9, 0, 0, 1) + " " + mail.unrule(0, 5));
        is("4 6", "the first one is taken away", () -> mail.unrule(0, 0) + " " + mail.wouldLie(0, 9, 0, 0, 1));
        is("3 5", "the LAST one has moved up", () -> mail.unrule(0, 3) + " " + mail.wouldLie(0, 9, 0, 0, 1));
        is("2 5", "one from the middle", () -> mail.unrule(0, 1) + " " + mail.wouldLie(0, 9, 0, 0, 1));
        is("1 3", "the last one", () -> mail.unrule(0, 1) + " " + mail.wouldLie(0, 9, 0, 0, 1));
        is("0 0", "the only one", () -> mail.unrule(0, 0) + " " + mail.wouldLie(0, 9, 0, 0, 1));
        refused("IndexOutOfBoundsException", "without any", () -> mail.unrule(0, 0));
        is("1 2 1 2", "two, the first one away, another one", () -> mail.rule(0, 4, 0, true, 0, 4, false) + " "
                + mail.rule(0, 4, 0, true, 0, 5, true) + " " + mail.unrule(0, 0) + " "
                + mail.rule(0, 4, 0, true, 0, 6, false));
        is("5 1 6", "each as it was made", () -> mail.wouldLie(0, 9, 0, 0, 1) + " " + mail.unrule(0, 0) + " "
                + mail.wouldLie(0, 9, 0, 0, 1));
    }

    private static void ofFolders() {
        about("0 its PARENT (NONE of IN and the BIN), 1 how many COPIES lie in it, 2 how many of these are not SEEN, 3 the"
                + " SIZES of all in it together, 4 the NUMBER that the next one gets, 5 how many COPIES lie in it or BELOW"
                + " it");
        mail.folder(0, IN);
        is("0 0 0 0 1 0", "an empty one", () -> each(6, what -> mail.ofFolder(0, 2, what)));
        mail.setQuota(0, 2000);
        mail.rule(0, 4, 0, true, 0, 2, false);
        for (int i = 0; i < 60; i++) {
            mail.send(9, 1, i, 0, i < 20 ? 50 : 25, NONE);
        }
        is("0 60 60 2000 61 60", "a full one", () -> each(6, what -> mail.ofFolder(0, 2, what)));
        is("-1 0 0 0 1 60", "IN", () -> each(6, what -> mail.ofFolder(0, IN, what)));
        is("-1 0 0 0 1 0", "the BIN", () -> each(6, what -> mail.ofFolder(0, BIN, what)));
        each(60, message -> mail.mark(0, message, 0, true) ? 1 : 0);
        mail.mark(0, 0, 1, true);
        is("0 60 0 2000 61 60", "all are SEEN", () -> each(6, what -> mail.ofFolder(0, 2, what)));
        mail.empty(0, 2);
        is("0 0 0 0 61 0", "empty again", () -> each(6, what -> mail.ofFolder(0, 2, what)));
        is("-1 60 0 2000 61 60", "the BIN", () -> each(6, what -> mail.ofFolder(0, BIN, what)));
    }

    private static void marking() {
        about("`mark`: 0 SEEN, 1 STARRED");
        send(3, 0);
        is("false true true false", "SEEN", () -> mail.mark(0, 0, 0, true) + " " + mail.mark(0, 0, 0, true) + " "
                + mail.mark(0, 0, 0, false) + " " + mail.mark(0, 0, 0, false));
        is("1 0 1 0 4", "what is told of it", () -> told(0, 0));
        is("false true true false", "STARRED", () -> mail.mark(0, 0, 1, true) + " " + mail.mark(0, 0, 1, true) + " "
                + mail.mark(0, 0, 1, false) + " " + mail.mark(0, 0, 1, false));
        is("1 0 1 0 6", "what is told of it", () -> told(0, 0));
        mail.mark(0, 0, 1, true);
        mail.mark(0, 0, 0, true);
        is("1 0 1 3 8", "both", () -> told(0, 0));
        is("1 0 1 0 2", "of another BOX", () -> told(1, 0));
    }

    private static void moving() {
        about("Moves a COPY (if it lies there already, nothing happens).");
        mail.setLinger(5, 10);
        send(1, 0);
        is(1, "move(0, 0, IN)", () -> mail.move(0, 0, IN));
        is("1 0 1 0 1", "nothing happens", () -> told(0, 0));
        is(1, "move(0, 0, BIN)", () -> mail.move(0, 0, BIN));
        mail.setClock(4);
        is(1, "move(0, 0, BIN) again", () -> mail.move(0, 0, BIN));
        is("1 1 1 0 2", "nothing happens", () -> told(0, 0));
        is(1, "it lies there from 0 on", () -> mail.setClock(5));
    }

    private static void emptying() {
        about("Lets all COPIES in a FOLDER, which is not the BIN, go to the BIN, by NUMBERS; or all in the BIN be GONE.");
        mail.folder(0, IN);
        mail.folder(0, 2);
        for (int i = 0; i < 5; i++) {
            send(3, i);
        }
        is("0 0", "empty ones", () -> mail.empty(0, 2) + " " + mail.empty(0, BIN));
        mail.move(0, 3, 2);
        mail.move(0, 1, 2);
        mail.move(0, 4, 3);
        mail.mark(0, 1, 1, true);
        is(2, "empty(0, 2), not what is BELOW it", () -> mail.empty(0, 2));
        is("3 1", "the BIN", () -> lies(0, BIN));
        is("1 1 2 2 16", "STARRED or not", () -> told(0, 1));
        is("4", "in 3", () -> lies(0, 3));
        is(2, "empty(0, BIN)", () -> mail.empty(0, BIN));
        is("3 5", "COPIES in the BOXES", () -> mail.ofFolder(0, IN, 5) + " " + mail.ofFolder(1, IN, 5));
        is(2, "empty(0, IN)", () -> mail.empty(0, IN));
        is("3 4", "NUMBERS in the BIN", () -> mail.copy(0, 0, 2) + " " + mail.copy(0, 2, 2));
    }

    private static void copies() {
        about("0 whether the PERSON got it (1 or 0), 1 the FOLDER in which the COPY lies (NONE without one), 2 its NUMBER (0"
                + " without one), 3 its marks: 1 if it is SEEN, and 2 more, if it is STARRED (0 without one), 4 its STAMP"
                + " (0 without one)");
        mail.rule(1, 4, 0, true, 4, 0, false);
        mail.rule(1, 4, 0, true, 1, 0, false);
        mail.rule(2, 4, 0, true, 2, 0, false);
        mail.setQuota(2, 9);
        send(7, 0);
        is("1 0 1 0 1", "kept", () -> told(0, 0));
        is("1 -1 0 0 0", "thrown away", () -> told(1, 0));
        is("1 -1 0 0 0", "REFUSED", () -> told(2, 0));
        is("0 -1 0 0 0", "not got", () -> told(3, 0));
        mail.mark(0, 0, 0, true);
        mail.mark(0, 0, 1, true);
        is("1 0 1 3 3", "both marks", () -> told(0, 0));
        mail.empty(0, IN);
        mail.empty(0, BIN);
        is("1 -1 0 0 0", "GONE", () -> told(0, 0));
    }

    private static void since() {
        about("Returns how many COPIES that lie in it have a later one.");
        is(0, "since(0, IN, LOW) without any", () -> mail.since(0, IN, LOW));
        send(1, 0);
        send(3, 1);
        int[] stamps = {LOW, -1, 0, 1, 2, 3, FAR};
        is("2 2 2 1 0 0 0", "the STAMPS are 1 and 2", () -> each(stamps.length, i -> mail.since(0, IN, stamps[i])));
        mail.move(0, 0, BIN);
        is("1 1 0", "IN since 0, the BIN since 3 and 4", () -> mail.since(0, IN, 0) + " " + mail.since(0, BIN, 3) + " "
                + mail.since(0, BIN, 4));
        mail.empty(0, BIN);
        is(0, "what is GONE", () -> mail.since(0, BIN, LOW));
        for (int i = 2; i < 60; i++) {
            sendSmall(2);
        }
        is("59 58 1 0", "of 60 MESSAGES", () -> mail.since(1, IN, 0) + " " + mail.since(1, IN, 3) + " "
                + mail.since(1, IN, 61) + " " + mail.since(1, IN, 62));
    }

    private static void means() {
        about("Returns the mean of the SIZES of all COPIES in the BOX, not cut; 0 without any.");
        is(0.0, "meanSize(0)", () -> mail.meanSize(0));
        mail.send(9, 1, 0, 0, 50, NONE);
        is(50.0, "meanSize(0)", () -> mail.meanSize(0));
        mail.send(9, 1, 0, 0, 1, NONE);
        is(25.5, "meanSize(0)", () -> mail.meanSize(0));
        mail.send(9, 1, 0, 0, 1, NONE);
        is(52.0 / 3.0, "meanSize(0)", () -> mail.meanSize(0));
        mail.empty(0, IN);
        is(52.0 / 3.0, "meanSize(0), all in the BIN", () -> mail.meanSize(0));
        mail.empty(0, BIN);
        is(0.0, "meanSize(0), all GONE", () -> mail.meanSize(0));
        for (int i = 3; i < 60; i++) {
            mail.send(9, 2, 0, 0, i < 4 ? 2 : 3, NONE);
        }
        is(170.0 / 57.0, "meanSize(1)", () -> mail.meanSize(1));
    }

    // ---- what would be

    private static void whatWouldBe() {
        wouldLie();
        wouldGet();
        wouldAge();
        wouldMiss();
        nothingIsChanged();
    }

    private static void wouldLie() {
        about("Returns the FOLDER in which a COPY of it would be kept, if it came to the PERSON; -1 if it would be thrown"
                + " away, -2 if it would be REFUSED.");
        is(IN, "at first", () -> mail.wouldLie(0, 9, 99, 255, 50));
        mail.setQuota(0, 50);
        is(IN, "up to QUOTA", () -> mail.wouldLie(0, 9, 99, 255, 50));
        mail.setQuota(0, 49);
        is(-2, "above QUOTA", () -> mail.wouldLie(0, 9, 99, 255, 50));
        is(IN, "up to QUOTA", () -> mail.wouldLie(0, 9, 99, 255, 49));
        sendSmall(1);
        is("-2 0", "above QUOTA, with what is there", () -> mail.wouldLie(0, 9, 99, 255, 49) + " "
                + mail.wouldLie(0, 9, 99, 255, 48));
        mail.rule(0, 1, 99, false, 4, 0, false);
        is("-1 -1", "thrown away", () -> mail.wouldLie(0, 9, 99, 0, 49) + " " + mail.wouldLie(0, 9, 99, 0, 1));
        mail.rule(0, 4, 0, false, 0, BIN, false);
        is(IN, "it ANSWERS none", () -> mail.wouldLie(0, 9, 0, 0, 1));
        mail.rule(0, 4, 0, true, 0, BIN, false);
        is(BIN, "it ANSWERS none", () -> mail.wouldLie(0, 9, 0, 0, 1));
        each(60, i -> mail.messages() < 60 ? mail.send(9, 0, 0, 0, 1, NONE) : 0);
        is(BIN, "though there were 60", () -> mail.wouldLie(0, 9, 0, 0, 1));
    }

    private static void wouldGet() {
        about("Returns the set of PEOPLE who would get it.");
        is(0, "to nobody", () -> mail.wouldGet(0, 9, 99, 255, 50));
        for (int to = 0; to < 16; to++) {
            int set = to;
            is(set, "wouldGet(" + set + ")", () -> mail.wouldGet(set, 9, 99, 255, 50));
        }
        mail.rule(3, 4, 0, true, 4, 0, false);
        mail.rule(3, 4, 0, true, 3, 2, true);
        mail.rule(3, 4, 0, true, 3, 0, false);
        mail.rule(2, 4, 0, true, 3, 1, false);
        mail.setQuota(2, 1);
        is("14 6 15 2", "goes on, though thrown away and REFUSED", () -> mail.wouldGet(8, 9, 0, 0, 50) + " "
                + mail.wouldGet(4, 9, 0, 0, 50) + " " + mail.wouldGet(9, 9, 0, 0, 50) + " "
                + mail.wouldGet(2, 9, 0, 0, 50));
        mail = new DovecoteMail();
        mail.rule(0, 0, 9, false, 3, 1, false);
        mail.rule(0, 1, 99, false, 3, 2, false);
        mail.rule(0, 2, 7, false, 3, 3, false);
        mail.rule(1, 3, 50, false, 3, 2, false);
        mail.rule(1, 4, 0, false, 3, 3, false);
        is("1 3 5 9 1 7", "by FROM, SUBJECT, WORDS and SIZE", () -> mail.wouldGet(1, 0, 0, 0, 1) + " "
                + mail.wouldGet(1, 9, 0, 0, 49) + " " + mail.wouldGet(1, 0, 99, 127, 50) + " "
                + mail.wouldGet(1, 8, 98, 128, 50) + " " + mail.wouldGet(1, 0, 0, 0, 1) + " "
                + mail.wouldGet(1, 9, 0, 0, 50));
    }

    private static void wouldAge() {
        about("Returns how many COPIES would be GONE in the BOX, and how many moved to the BIN, as 100 * the first + the"
                + " second, if the CLOCK was set to that.");
        for (int i = 0; i < 60; i++) {
            sendSmall(3);
        }
        mail.setAge(0, IN, 200);
        is("0 60 0", "60 are moved", () -> mail.wouldAge(0, 199) + " " + mail.wouldAge(0, 200) + " "
                + mail.wouldAge(1, 200));
        each(30, message -> mail.move(0, message, BIN));
        is("0 3000 3030", "30 and 30", () -> mail.wouldAge(0, 19) + " " + mail.wouldAge(0, 20) + " "
                + mail.wouldAge(0, 200));
        mail.mark(0, 59, 1, true);
        mail.mark(0, 0, 1, true);
        is("3029 3029", "one is STARRED on either side", () -> mail.wouldAge(0, 200) + " " + mail.wouldAge(0, 9999));
        mail.empty(0, IN);
        is("0 6000", "60 are GONE", () -> mail.wouldAge(0, 19) + " " + mail.wouldAge(0, 20));
        is("60 0", "as setClock does", () -> mail.setClock(20) + " " + mail.wouldAge(0, 21));
    }

    private static void wouldMiss() {
        about("Returns for how many of all MESSAGES that the PERSON got the RULES, as they are now, tell another end than they"
                + " would without this one: that they are thrown away, or the FOLDER (FULL aside).");
        mail.folder(0, IN);
        mail.setQuota(0, 1);
        for (int i = 0; i < 60; i++) {
            mail.send(9, i < 40 ? 1 : 2, i % 4, i % 8, 2, NONE);
        }
        is("0 40", "all were REFUSED", () -> mail.full(0) + " " + mail.bounces(9));
        mail.rule(0, 2, 0, false, 0, 2, false);
        is(20, "every other one is put", () -> mail.wouldMiss(0, 0));
        mail.rule(0, 1, 1, false, 1, 0, true);
        is("20 0", "a mark is no end", () -> mail.wouldMiss(0, 0) + " " + mail.wouldMiss(0, 1));
        mail.rule(0, 2, 0, false, 0, IN, false);
        is("10 10 10", "a LAST one keeps others off", () -> each(3, rule -> mail.wouldMiss(0, rule)));
        mail.rule(0, 1, 2, false, 4, 0, false);
        is("10 10 10 10", "thrown away", () -> each(4, rule -> mail.wouldMiss(0, rule)));
        mail.rule(0, 2, 1, false, 0, 2, false);
        is("10 10 0 10 10", "thrown away, wherever it was put", () -> each(5, rule -> mail.wouldMiss(0, rule)));
        mail.rule(0, 4, 0, false, 4, 0, false);
        is("10 10 0 10 10 0", "none ANSWERS", () -> each(6, rule -> mail.wouldMiss(0, rule)));
        mail.rule(1, 4, 0, true, 4, 0, false);
        is(20, "of another BOX", () -> mail.wouldMiss(1, 0));
        mail.rule(3, 4, 0, true, 4, 0, false);
        is(0, "who got none", () -> mail.wouldMiss(3, 0));
    }

    /** Calls that only ask, made on one of two twins. */
    private static void nothingIsChanged() {
        about("---- what would be (nothing is changed)");
        Twins.Calls calls = mail -> {
            mail.folder(0, IN);
            mail.rule(0, 2, 0, false, 0, 2, false);
            mail.rule(0, 1, 1, false, 3, 1, true);
            mail.setAge(0, IN, 5);
            mail.query(6, 0, 0);
            for (int i = 0; i < 12; i++) {
                mail.send(i % 10, i + 1, i % 3, i * 5, 4 * i + 1, i - 1);
            }
            mail.move(0, 2, BIN);
            mail.mark(0, 4, 1, true);
        };
        Twins twins = new Twins(DUE, calls);
        for (int n = 0; n < 4; n++) {
            int number = n;
            twins.keeps("wouldLie", mail -> mail.wouldLie(number, 0, number, 255, 50));
            twins.keeps("wouldGet", mail -> mail.wouldGet(number * 5, 0, 1, 0, 50));
            twins.keeps("wouldAge", mail -> mail.wouldAge(number, 9999));
            twins.keeps("threads", mail -> mail.threads(number));
            twins.keeps("finds", mail -> mail.finds(number, 0));
            twins.keeps("meanSize", mail -> mail.meanSize(number));
            twins.keeps("ofFolder", mail -> mail.ofFolder(0, 2, number));
            twins.keeps("ofThread", mail -> mail.ofThread(0, 0, number));
            twins.keeps("copy", mail -> mail.copy(0, 0, number));
        }
        twins.keeps("wouldMiss", mail -> mail.wouldMiss(0, 0));
        twins.keeps("wouldMiss", mail -> mail.wouldMiss(0, 1));
        twins.keeps("digest", DovecoteMail::digest);
        twins.keeps("at", mail -> mail.at(0, BIN, 0));
        twins.keeps("since", mail -> mail.since(0, IN, 1));
        twins.keeps("found", mail -> mail.found(0, 0, 0));
    }

    // ---- the whole object

    private static void wholeObject() {
        about("A number d starts with 2689; then d becomes d * 31 + v, which wraps around as a 64-bit integer");
        BigInteger empty = Checksum.of(made -> { }, 0);
        is(true, "it is more than 64 bits hold", () -> empty.bitLength() > 64);
        is(empty.longValue(), "digest() of a new object", mail::digest);
        BigInteger full = Checksum.of(LimitsTest::fill, 20);
        fill(mail);
        is(full.longValue(), "digest() with 60 MESSAGES and 20 QUERIES", mail::digest);
        about("An object is used for at most 512 calls after it has been made");
        for (int i = 0; i < 511; i++) {
            mail.setQuota(i % 4, i + 1);
        }
        is(508, "the 512th call", () -> mail.setQuota(3, 1));
    }

    private static void fill(DovecoteMail made) {
        for (int i = 0; i < 60; i++) {
            made.send(i % 10, 15 - i % 16, i % 5, i * 4, i % 50 + 1, i - 1);
        }
        for (int i = 0; i < 20; i++) {
            made.query(i % 2 == 0 ? 3 : 7, i % 2 == 0 ? i + 1 : i - 1, 0);
        }
        for (int folder = 2; folder < 8; folder++) {
            made.folder(2, folder == 2 ? IN : folder - 1);
        }
    }
}
