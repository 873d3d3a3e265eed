import java.util.Random;

/** Long runs of calls, some of them wrong ones, each answered by the class and by the model alike. */
public final class ModelTest {

    private static final int RUNS = 300;
    private static final int CALLS = 512;

    private final Due due = new Due();
    private final Random random;
    private final int run;
    private final DovecoteMail mail = new DovecoteMail();
    private final MailModel model = new MailModel();
    private final int calm;

    private ModelTest(int run) {
        this.run = run;
        random = new Random(run);
        calm = 3 + random.nextInt(40);
    }

    public static void main(String[] args) {
        for (int run = 0; run < RUNS; run++) {
            ModelTest test = new ModelTest(run);
            for (int i = 0; i < CALLS && test.calls < CALLS; i++) {
                test.call(i);
            }
            if (run == RUNS - 1 || test.isWrong) {
                test.due.end("ModelTest, run " + run + " of " + RUNS);
            }
        }
    }

    private boolean isWrong;
    private int calls;

    private void same(int i, String what, Due.Call got, Due.Call want) {
        if (calls == CALLS) {
            // What later calls answer is free.
            return;
        }
        calls++;
        Object wanted = Due.outcome(want);
        Object answered = Due.outcome(got);
        due.is(wanted, "run " + run + ", call " + i + ": " + what, () -> answered);
        isWrong |= !wanted.equals(answered);
    }

    /** Mostly what can be, now and then a number beside it, seldom one far off. */
    private int pick(int least, int most) {
        int chance = random.nextInt(400);
        if (chance == 0) {
            return random.nextBoolean() ? Integer.MIN_VALUE : Integer.MAX_VALUE;
        }
        if (chance < 8) {
            return random.nextBoolean() ? least - 1 : most + 1;
        }
        return most < least ? least : least + random.nextInt(most - least + 1);
    }

    private int person() {
        return pick(0, 3);
    }

    private int folderOf(int person) {
        return pick(0, person >= 0 && person < 4 ? model.folders(person) - 1 : 7);
    }

    private int message() {
        return pick(0, model.messages() - 1);
    }

    private int query() {
        return pick(0, model.queries.size() - 1);
    }

    private int ruleOf(int person) {
        return pick(0, person >= 0 && person < 4 ? model.boxes.get(person).rules.size() - 1 : 5);
    }

    private int subject() {
        return random.nextInt(6) == 0 ? pick(0, 99) : pick(0, 3);
    }

    private void call(int i) {
        switch (random.nextInt(24)) {
            case 0, 1, 2, 3, 4 -> send(i);
            case 5 -> shape(i);
            case 6 -> rules(i);
            case 7 -> limits(i);
            case 8 -> time(i);
            case 9, 10 -> marks(i);
            case 11, 12 -> moves(i);
            case 13 -> search(i);
            case 14, 15, 16 -> looks(i);
            case 17, 18 -> finds(i);
            case 19, 20 -> threads(i);
            case 21, 22 -> would(i);
            default -> totals(i);
        }
        if (i % 16 == 15) {
            same(i, "digest()", mail::digest, model::digest);
        }
    }

    private void send(int i) {
        int from = pick(0, 9);
        int to = pick(0, 15);
        int subject = subject();
        int words = pick(0, 255);
        int size = pick(1, 50);
        int answers = random.nextInt(3) == 0 ? message() : -1;
        same(i, "send(" + from + ", " + to + ", " + subject + ", " + words + ", " + size + ", " + answers + ")",
                () -> mail.send(from, to, subject, words, size, answers),
                () -> model.send(from, to, subject, words, size, answers));
    }

    private void shape(int i) {
        int person = person();
        int folder = folderOf(person);
        int parent = folderOf(person);
        if (random.nextBoolean()) {
            same(i, "folder(" + person + ", " + parent + ")",
                    () -> mail.folder(person, parent), () -> model.folder(person, parent));
        } else {
            same(i, "nest(" + person + ", " + folder + ", " + parent + ")",
                    () -> mail.nest(person, folder, parent), () -> model.nest(person, folder, parent));
        }
    }

    private void rules(int i) {
        int person = person();
        int place = ruleOf(person);
        if (random.nextInt(4) == 0) {
            same(i, "unrule(" + person + ", " + place + ")",
                    () -> mail.unrule(person, place), () -> model.unrule(person, place));
            return;
        }
        int asks = pick(0, 4);
        int[] most = {9, 4, 7, 50, 200};
        int a = pick(asks == 3 ? 1 : 0, asks >= 0 && asks <= 4 ? most[asks] : 9);
        boolean isNot = random.nextInt(3) == 0;
        int does = random.nextInt(5) == 0 ? pick(0, 4) : pick(0, 3);
        int b = does == 0 ? folderOf(person) : pick(0, 3);
        boolean isLast = random.nextInt(4) == 0;
        same(i, "rule(" + person + ", " + asks + ", " + a + ", " + isNot + ", " + does + ", " + b + ", " + isLast + ")",
                () -> mail.rule(person, asks, a, isNot, does, b, isLast),
                () -> model.rule(person, asks, a, isNot, does, b, isLast));
    }

    private void limits(int i) {
        int person = person();
        switch (random.nextInt(3)) {
            case 0 -> {
                int folder = folderOf(person);
                int age = random.nextBoolean() ? pick(0, 30) : pick(0, 200);
                same(i, "setAge(" + person + ", " + folder + ", " + age + ")",
                        () -> mail.setAge(person, folder, age), () -> model.setAge(person, folder, age));
            }
            case 1 -> {
                int quota = random.nextBoolean() ? pick(1, 2000) : pick(1, 400);
                same(i, "setQuota(" + person + ", " + quota + ")",
                        () -> mail.setQuota(person, quota), () -> model.setQuota(person, quota));
            }
            default -> {
                int linger = random.nextBoolean() ? pick(1, 15) : pick(1, 100);
                int window = random.nextBoolean() ? pick(0, 5) : pick(0, 50);
                same(i, "setLinger(" + linger + ", " + window + ")",
                        () -> mail.setLinger(linger, window), () -> model.setLinger(linger, window));
            }
        }
    }

    private int later() {
        return random.nextInt(100) == 0 ? pick(0, 9999) : model.clock + pick(1, 1 + calm / 3);
    }

    private void time(int i) {
        int clock = later();
        same(i, "setClock(" + clock + ")", () -> mail.setClock(clock), () -> model.setClock(clock));
    }

    private void marks(int i) {
        int person = person();
        int message = message();
        int mark = pick(0, 1);
        boolean isOn = random.nextInt(3) != 0;
        same(i, "mark(" + person + ", " + message + ", " + mark + ", " + isOn + ")",
                () -> mail.mark(person, message, mark, isOn), () -> model.mark(person, message, mark, isOn));
    }

    private void moves(int i) {
        int person = person();
        int message = message();
        int folder = folderOf(person);
        if (random.nextInt(calm) < 2) {
            same(i, "empty(" + person + ", " + folder + ")",
                    () -> mail.empty(person, folder), () -> model.empty(person, folder));
        } else {
            same(i, "move(" + person + ", " + message + ", " + folder + ")",
                    () -> mail.move(person, message, folder), () -> model.move(person, message, folder));
        }
    }

    private void search(int i) {
        int kind = pick(0, 9);
        int[] least = {0, 0, 0, 1, 0, 0, 0, 0, 0, 0};
        int last = model.queries.size() - 1;
        int[] most = {9, 4, 7, 50, 1, 7, model.clock + 1, last, last, last};
        boolean isKind = kind >= 0 && kind <= 9;
        int a = isKind ? pick(least[kind], most[kind]) : 0;
        int b = query();
        same(i, "query(" + kind + ", " + a + ", " + b + ")",
                () -> mail.query(kind, a, b), () -> model.query(kind, a, b));
    }

    private void looks(int i) {
        int person = person();
        int folder = folderOf(person);
        switch (random.nextInt(4)) {
            case 0 -> {
                int what = pick(0, 5);
                same(i, "ofFolder(" + person + ", " + folder + ", " + what + ")",
                        () -> mail.ofFolder(person, folder, what), () -> model.ofFolder(person, folder, what));
            }
            case 1 -> {
                int message = message();
                int what = pick(0, 4);
                same(i, "copy(" + person + ", " + message + ", " + what + ")",
                        () -> mail.copy(person, message, what), () -> model.copy(person, message, what));
            }
            case 2 -> {
                int k = pick(0, 3);
                same(i, "at(" + person + ", " + folder + ", " + k + ")",
                        () -> mail.at(person, folder, k), () -> model.at(person, folder, k));
            }
            default -> {
                int stamp = pick(0, model.stamps);
                same(i, "since(" + person + ", " + folder + ", " + stamp + ")",
                        () -> mail.since(person, folder, stamp), () -> model.since(person, folder, stamp));
            }
        }
    }

    private void finds(int i) {
        int person = person();
        int query = query();
        int k = pick(0, 4);
        same(i, "finds(" + person + ", " + query + ")",
                () -> mail.finds(person, query), () -> model.finds(person, query));
        same(i, "found(" + person + ", " + query + ", " + k + ")",
                () -> mail.found(person, query, k), () -> model.found(person, query, k));
    }

    private void threads(int i) {
        int person = person();
        int message = message();
        int what = pick(0, 3);
        same(i, "threads(" + person + ")", () -> mail.threads(person), () -> model.threads(person));
        same(i, "ofThread(" + person + ", " + message + ", " + what + ")",
                () -> mail.ofThread(person, message, what), () -> model.ofThread(person, message, what));
    }

    private void would(int i) {
        int person = person();
        int from = pick(0, 9);
        int subject = subject();
        int words = pick(0, 255);
        int size = pick(1, 50);
        String says = from + ", " + subject + ", " + words + ", " + size + ")";
        switch (random.nextInt(4)) {
            case 0 -> same(i, "wouldLie(" + person + ", " + says,
                    () -> mail.wouldLie(person, from, subject, words, size),
                    () -> model.wouldLie(person, from, subject, words, size));
            case 1 -> {
                int to = pick(0, 15);
                same(i, "wouldGet(" + to + ", " + says,
                        () -> mail.wouldGet(to, from, subject, words, size),
                        () -> model.wouldGet(to, from, subject, words, size));
            }
            case 2 -> {
                int clock = later();
                same(i, "wouldAge(" + person + ", " + clock + ")",
                        () -> mail.wouldAge(person, clock), () -> model.wouldAge(person, clock));
            }
            default -> {
                int rule = ruleOf(person);
                same(i, "wouldMiss(" + person + ", " + rule + ")",
                        () -> mail.wouldMiss(person, rule), () -> model.wouldMiss(person, rule));
            }
        }
    }

    private void totals(int i) {
        int person = person();
        int address = pick(0, 9);
        same(i, "messages()", mail::messages, model::messages);
        same(i, "stamp()", mail::stamp, model::stamp);
        same(i, "full(" + person + ")", () -> mail.full(person), () -> model.full(person));
        same(i, "folders(" + person + ")", () -> mail.folders(person), () -> model.folders(person));
        same(i, "bounces(" + address + ")", () -> mail.bounces(address), () -> model.bounces(address));
        same(i, "meanSize(" + person + ")", () -> mail.meanSize(person), () -> model.meanSize(person));
    }
}
