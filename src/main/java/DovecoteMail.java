/**
 * A store of mail.
 *
 * <p>What each call promises stands in the document DOC.md; the words in capitals are its own.
 */
public final class DovecoteMail {

    private static final int NONE = -1;

    private static final int PEOPLE = 4;
    private static final int ADDRESSES = 10;
    private static final int MOST_FOLDERS = 8;
    private static final int MOST_MESSAGES = 60;
    private static final int MOST_RULES = 6;
    private static final int MOST_QUERIES = 20;

    private static final int LAST_SUBJECT = 99;
    private static final int LAST_WORD = 7;
    private static final int ALL_WORDS = 255;
    private static final int MOST_SIZE = 50;
    private static final int MOST_AGE = 200;
    private static final int MOST_QUOTA = 2000;
    private static final int MOST_LINGER = 100;
    private static final int MOST_WINDOW = 50;
    private static final int MOST_CLOCK = 9999;

    private static final int IN = 0;
    private static final int BIN = 1;

    private static final int SEEN = 0;
    private static final int STARRED = 1;

    private static final int ASKS_FROM = 0;
    private static final int ASKS_SUBJECT = 1;
    private static final int ASKS_WORD = 2;
    private static final int ASKS_SIZE = 3;
    private static final int ASKS_ANSWERS = 4;

    private static final int DOES_PUT = 0;
    private static final int DOES_STAR = 1;
    private static final int DOES_SEE = 2;
    private static final int DOES_GO_ON = 3;
    private static final int DOES_THROW_AWAY = 4;

    private static final int KIND_FROM = 0;
    private static final int KIND_SUBJECT = 1;
    private static final int KIND_WORD = 2;
    private static final int KIND_SIZE = 3;
    private static final int KIND_MARK = 4;
    private static final int KIND_FOLDER = 5;
    private static final int KIND_SENT = 6;
    private static final int KIND_NOT = 7;
    private static final int KIND_BOTH = 8;
    private static final int KIND_EITHER = 9;

    private static final int FOLDER_PARENT = 0;
    private static final int FOLDER_COPIES = 1;
    private static final int FOLDER_NOT_SEEN = 2;
    private static final int FOLDER_SIZES = 3;
    private static final int FOLDER_NEXT_NUMBER = 4;
    private static final int FOLDER_AND_BELOW = 5;

    private static final int COPY_GOT = 0;
    private static final int COPY_FOLDER = 1;
    private static final int COPY_NUMBER = 2;
    private static final int COPY_MARKS = 3;
    private static final int COPY_STAMP = 4;

    private static final int THREAD_ROOT = 0;
    private static final int THREAD_COPIES = 1;
    private static final int THREAD_NOT_SEEN = 2;
    private static final int THREAD_STEPS = 3;

    private static final int WOULD_BE_THROWN_AWAY = -1;
    private static final int WOULD_BE_REFUSED = -2;

    private static final long DIGEST_START = 2689;

    private final Box[] boxes = new Box[PEOPLE];
    private final Letter[] letters = new Letter[MOST_MESSAGES];
    private int letterCount;
    private final Query[] queries = new Query[MOST_QUERIES];
    private int queryCount;
    private final int[] bounceCounts = new int[ADDRESSES];
    private int clock;
    private int linger = 20;
    private int window = 10;
    private int latestStamp;

    // These say nothing from one call to the next: they are made once, as what a run makes is counted.
    private final Letter asked = new Letter();
    private final Outcome outcome = new Outcome();
    private final Route route = new Route();
    private final ThreadMap threadMap = new ThreadMap();
    private final int[] findCounts = new int[MOST_QUERIES];

    public DovecoteMail() {
        for (int i = 0; i < boxes.length; i++) {
            boxes[i] = new Box();
        }
        for (int i = 0; i < letters.length; i++) {
            letters[i] = new Letter();
        }
        for (int i = 0; i < queries.length; i++) {
            queries[i] = new Query();
        }
    }

    // ---- folders, rules

    public int folder(int person, int parent)
            throws IndexOutOfBoundsException, IllegalArgumentException, IllegalStateException {
        Box box = boxOf(person);
        checkFolder(box, parent);
        if (parent == BIN) {
            throw new IllegalArgumentException("the BIN is no PARENT");
        }
        if (box.shelfCount >= MOST_FOLDERS) {
            throw new IllegalStateException("there are 8 FOLDERS");
        }
        int number = box.shelfCount;
        box.shelves[number].parent = parent;
        box.shelfCount++;
        return number;
    }

    public int nest(int person, int folder, int parent) throws IndexOutOfBoundsException, IllegalArgumentException {
        Box box = boxOf(person);
        checkFolder(box, folder);
        checkFolder(box, parent);
        if (folder == IN || folder == BIN) {
            throw new IllegalArgumentException("IN and the BIN have no PARENT");
        }
        if (parent == BIN || box.isWithin(parent, folder)) {
            throw new IllegalArgumentException("no PARENT for this FOLDER");
        }
        int before = box.shelves[folder].parent;
        box.shelves[folder].parent = parent;
        return before;
    }

    public int setAge(int person, int folder, int age) throws IndexOutOfBoundsException, IllegalArgumentException {
        Box box = boxOf(person);
        checkFolder(box, folder);
        checkRange(age, 0, MOST_AGE);
        int before = box.shelves[folder].age;
        box.shelves[folder].age = age;
        return before;
    }

    public int setQuota(int person, int quota) throws IndexOutOfBoundsException, IllegalArgumentException {
        Box box = boxOf(person);
        checkRange(quota, 1, MOST_QUOTA);
        int before = box.quota;
        box.quota = quota;
        return before;
    }

    public int setLinger(int linger, int window) throws IllegalArgumentException {
        checkRange(linger, 1, MOST_LINGER);
        checkRange(window, 0, MOST_WINDOW);
        int before = this.linger;
        this.linger = linger;
        this.window = window;
        return before;
    }

    public int rule(int person, int asks, int a, boolean isNot, int does, int b, boolean isLast)
            throws IndexOutOfBoundsException, IllegalArgumentException, IllegalStateException {
        Box box = boxOf(person);
        if (!canAsk(asks, a) || !canDo(person, does, b)) {
            throw new IllegalArgumentException("no such RULE can be");
        }
        if (box.ruleCount >= MOST_RULES) {
            throw new IllegalStateException("there are 6 RULES");
        }
        Rule added = box.rules[box.ruleCount];
        added.setQuestion(asks, a, isNot);
        added.setDeed(does, b, isLast);
        box.ruleCount++;
        return box.ruleCount;
    }

    public int unrule(int person, int rule) throws IndexOutOfBoundsException {
        Box box = boxOf(person);
        checkRule(box, rule);
        box.removeRule(rule);
        return box.ruleCount;
    }

    public int folders(int person) throws IndexOutOfBoundsException {
        return boxOf(person).shelfCount;
    }

    public int ofFolder(int person, int folder, int what) throws IndexOutOfBoundsException, IllegalArgumentException {
        Box box = boxOf(person);
        checkFolder(box, folder);
        checkRange(what, FOLDER_PARENT, FOLDER_AND_BELOW);
        return tellOfFolder(box, folder, what);
    }

    // ---- messages

    public int send(int from, int to, int subject, int words, int size, int answers)
            throws IndexOutOfBoundsException, IllegalArgumentException, IllegalStateException {
        if (answers != NONE && !isSent(answers)) {
            throw new IndexOutOfBoundsException("no such MESSAGE is ANSWERED");
        }
        checkSet(to);
        checkLetter(from, subject, words, size);
        if (letterCount >= MOST_MESSAGES) {
            throw new IllegalStateException("there were 60 MESSAGES");
        }
        int message = letterCount;
        letters[message].write(from, subject, words, size, answers, clock);
        letterCount++;
        planRoute(to, letters[message]);
        for (int i = 0; i < route.length; i++) {
            arrive(boxes[route.people[i]], message);
        }
        return message;
    }

    public int setClock(int clock) throws IllegalArgumentException {
        checkClock(clock);
        this.clock = clock;
        int gone = 0;
        for (int i = 0; i < boxes.length; i++) {
            gone += clearOldBin(boxes[i]);
            binAgedCopies(boxes[i]);
        }
        return gone;
    }

    public boolean mark(int person, int message, int mark, boolean isOn)
            throws IndexOutOfBoundsException, IllegalArgumentException {
        Box box = boxOf(person);
        checkCopy(box, message);
        if (mark != SEEN && mark != STARRED) {
            throw new IllegalArgumentException("no such mark");
        }
        Copy copy = box.copies[message];
        boolean wasOn = copy.hasMark(mark);
        if (wasOn != isOn) {
            copy.marks ^= 1 << mark;
            restamp(copy);
        }
        return wasOn;
    }

    public int move(int person, int message, int folder) throws IndexOutOfBoundsException {
        Box box = boxOf(person);
        checkCopy(box, message);
        checkFolder(box, folder);
        Copy copy = box.copies[message];
        if (copy.shelf != folder) {
            lay(box, copy, folder);
        }
        return copy.number;
    }

    public int empty(int person, int folder) throws IndexOutOfBoundsException {
        Box box = boxOf(person);
        checkFolder(box, folder);
        return folder == BIN ? clearBin(box) : binAll(box, folder);
    }

    public int messages() {
        return letterCount;
    }

    public int copy(int person, int message, int what) throws IndexOutOfBoundsException, IllegalArgumentException {
        Box box = boxOf(person);
        if (!isSent(message)) {
            throw new IndexOutOfBoundsException("no such MESSAGE");
        }
        checkRange(what, COPY_GOT, COPY_STAMP);
        return box.copies[message].tell(what);
    }

    public int at(int person, int folder, int k) throws IndexOutOfBoundsException {
        Box box = boxOf(person);
        checkFolder(box, folder);
        if (k < 0 || k >= box.countIn(folder)) {
            throw new IndexOutOfBoundsException("no such place in the FOLDER");
        }
        int message = box.nextByNumber(folder, 0);
        for (int i = 0; i < k && message != NONE; i++) {
            message = box.nextByNumber(folder, box.copies[message].number);
        }
        return message;
    }

    public int full(int person) throws IndexOutOfBoundsException {
        return sizesOf(boxOf(person));
    }

    public int bounces(int address) throws IndexOutOfBoundsException {
        if (address < 0 || address >= ADDRESSES) {
            throw new IndexOutOfBoundsException("no such ADDRESS");
        }
        return bounceCounts[address];
    }

    public int stamp() {
        return latestStamp;
    }

    public int since(int person, int folder, int stamp) throws IndexOutOfBoundsException {
        Box box = boxOf(person);
        checkFolder(box, folder);
        int count = 0;
        for (int i = 0; i < letterCount; i++) {
            Copy copy = box.copies[i];
            if (copy.shelf == folder && copy.stamp > stamp) {
                count++;
            }
        }
        return count;
    }

    // ---- threads, searches

    public int threads(int person) throws IndexOutOfBoundsException {
        Box box = boxOf(person);
        threadMap.draw(box, letters, letterCount, window);
        return threadMap.threadCount;
    }

    public int ofThread(int person, int message, int what) throws IndexOutOfBoundsException, IllegalArgumentException {
        Box box = boxOf(person);
        checkCopy(box, message);
        checkRange(what, THREAD_ROOT, THREAD_STEPS);
        if (what == THREAD_STEPS) {
            return answerSteps(box, message);
        }
        threadMap.draw(box, letters, letterCount, window);
        return threadMap.tell(message, what);
    }

    public int query(int kind, int a, int b) throws IllegalArgumentException, IllegalStateException {
        if (!canQuery(kind, a, b)) {
            throw new IllegalArgumentException("no such QUERY can be");
        }
        if (queryCount >= MOST_QUERIES) {
            throw new IllegalStateException("there are 20 QUERIES");
        }
        int number = queryCount;
        queries[number].write(kind, a, b);
        queryCount++;
        return number;
    }

    public int finds(int person, int query) throws IndexOutOfBoundsException {
        Box box = boxOf(person);
        checkQuery(query);
        int count = 0;
        for (int i = 0; i < letterCount; i++) {
            if (isFound(box, i, query)) {
                count++;
            }
        }
        return count;
    }

    public int found(int person, int query, int k) throws IndexOutOfBoundsException {
        Box box = boxOf(person);
        checkQuery(query);
        int message = k < 0 ? NONE : foundAt(box, query, k);
        if (message == NONE) {
            throw new IndexOutOfBoundsException("no such place among what is found");
        }
        return message;
    }

    public double meanSize(int person) throws IndexOutOfBoundsException {
        Box box = boxOf(person);
        int count = 0;
        for (int i = 0; i < letterCount; i++) {
            if (box.copies[i].isKept()) {
                count++;
            }
        }
        return count == 0 ? 0.0 : (double) sizesOf(box) / (double) count;
    }

    // ---- what would be (nothing is changed)

    public int wouldLie(int person, int from, int subject, int words, int size)
            throws IndexOutOfBoundsException, IllegalArgumentException {
        Box box = boxOf(person);
        checkLetter(from, subject, words, size);
        asked.write(from, subject, words, size, NONE, clock);
        box.judge(asked, NONE, outcome);
        if (outcome.isThrownAway) {
            return WOULD_BE_THROWN_AWAY;
        }
        return isRoomFor(box, size) ? outcome.shelf : WOULD_BE_REFUSED;
    }

    public int wouldGet(int to, int from, int subject, int words, int size) throws IllegalArgumentException {
        checkSet(to);
        checkLetter(from, subject, words, size);
        asked.write(from, subject, words, size, NONE, clock);
        planRoute(to, asked);
        return route.set;
    }

    public int wouldAge(int person, int clock) throws IndexOutOfBoundsException, IllegalArgumentException {
        Box box = boxOf(person);
        checkClock(clock);
        int gone = 0;
        int moved = 0;
        for (int i = 0; i < letterCount; i++) {
            if (hasLingered(box.copies[i], clock)) {
                gone++;
            }
            if (hasAged(box, i, clock)) {
                moved++;
            }
        }
        return 100 * gone + moved;
    }

    public int wouldMiss(int person, int rule) throws IndexOutOfBoundsException {
        Box box = boxOf(person);
        checkRule(box, rule);
        int count = 0;
        for (int i = 0; i < letterCount; i++) {
            if (box.copies[i].isGot && endOf(box, i, NONE) != endOf(box, i, rule)) {
                count++;
            }
        }
        return count;
    }

    public long digest() {
        long d = DIGEST_START;
        d = mix(d, letterCount);
        d = mix(d, latestStamp);
        for (int i = 0; i < bounceCounts.length; i++) {
            d = mix(d, bounceCounts[i]);
        }
        for (int i = 0; i < boxes.length; i++) {
            d = mixBox(d, boxes[i]);
        }
        return d;
    }

    // ---- what a call tests first

    private Box boxOf(int person) {
        if (person < 0 || person >= PEOPLE) {
            throw new IndexOutOfBoundsException("no such PERSON");
        }
        return boxes[person];
    }

    private static void checkFolder(Box box, int folder) {
        if (!box.hasShelf(folder)) {
            throw new IndexOutOfBoundsException("no such FOLDER in the BOX");
        }
    }

    private static void checkRule(Box box, int rule) {
        if (rule < 0 || rule >= box.ruleCount) {
            throw new IndexOutOfBoundsException("no such RULE");
        }
    }

    private void checkCopy(Box box, int message) {
        if (!isSent(message) || !box.copies[message].isKept()) {
            throw new IndexOutOfBoundsException("no COPY of that MESSAGE in the BOX");
        }
    }

    private void checkQuery(int query) {
        if (!isQuery(query)) {
            throw new IndexOutOfBoundsException("no such QUERY");
        }
    }

    private static void checkRange(int value, int least, int most) {
        if (!isFrom(value, least, most)) {
            throw new IllegalArgumentException("outside of what it can be");
        }
    }

    private void checkClock(int clock) {
        if (clock <= this.clock || clock > MOST_CLOCK) {
            throw new IllegalArgumentException("no CLOCK to come");
        }
    }

    private static void checkSet(int to) {
        checkRange(to, 0, (1 << PEOPLE) - 1);
    }

    private static void checkLetter(int from, int subject, int words, int size) {
        checkRange(from, 0, ADDRESSES - 1);
        checkRange(subject, 0, LAST_SUBJECT);
        checkRange(words, 0, ALL_WORDS);
        checkRange(size, 1, MOST_SIZE);
    }

    private static boolean isFrom(int value, int least, int most) {
        return value >= least && value <= most;
    }

    private static boolean isInSet(int set, int k) {
        return (set >> k & 1) == 1;
    }

    private boolean isSent(int message) {
        return message >= 0 && message < letterCount;
    }

    private boolean isQuery(int query) {
        return query >= 0 && query < queryCount;
    }

    private static boolean canAsk(int asks, int a) {
        switch (asks) {
            case ASKS_FROM:
                return isFrom(a, 0, ADDRESSES - 1);
            case ASKS_SUBJECT:
                return isFrom(a, 0, LAST_SUBJECT);
            case ASKS_WORD:
                return isFrom(a, 0, LAST_WORD);
            case ASKS_SIZE:
                return isFrom(a, 1, MOST_SIZE);
            case ASKS_ANSWERS:
                return true;
            default:
                return false;
        }
    }

    private boolean canDo(int person, int does, int b) {
        switch (does) {
            case DOES_PUT:
                return boxOf(person).hasShelf(b);
            case DOES_GO_ON:
                return isFrom(b, 0, PEOPLE - 1) && b != person;
            case DOES_STAR:
            case DOES_SEE:
            case DOES_THROW_AWAY:
                return true;
            default:
                return false;
        }
    }

    private boolean canQuery(int kind, int a, int b) {
        switch (kind) {
            case KIND_FROM:
                return isFrom(a, 0, ADDRESSES - 1);
            case KIND_SUBJECT:
                return isFrom(a, 0, LAST_SUBJECT);
            case KIND_WORD:
                return isFrom(a, 0, LAST_WORD);
            case KIND_SIZE:
                return isFrom(a, 1, MOST_SIZE);
            case KIND_MARK:
                return a == SEEN || a == STARRED;
            case KIND_FOLDER:
                return isFrom(a, 0, MOST_FOLDERS - 1);
            case KIND_SENT:
                return a >= 0;
            case KIND_NOT:
                return isQuery(a);
            case KIND_BOTH:
            case KIND_EITHER:
                return isQuery(a) && isQuery(b);
            default:
                return false;
        }
    }

    // ---- how messages come

    // Who gets a MESSAGE hangs on the RULES alone, not on any room, so the whole way is known before a COPY is kept.
    private void planRoute(int to, Letter letter) {
        route.clear();
        for (int person = 0; person < PEOPLE; person++) {
            if (isInSet(to, person)) {
                route.add(person);
            }
        }
        for (int i = 0; i < PEOPLE && i < route.length; i++) {
            boxes[route.people[i]].judge(letter, NONE, outcome);
            for (int j = 0; j < outcome.goesOnCount; j++) {
                route.add(outcome.goesOn[j]);
            }
        }
    }

    private void arrive(Box box, int message) {
        Letter letter = letters[message];
        Copy copy = box.copies[message];
        copy.isGot = true;
        box.judge(letter, NONE, outcome);
        if (outcome.isThrownAway) {
            return;
        }
        if (isRoomFor(box, letter.size)) {
            copy.marks = outcome.marks;
            lay(box, copy, outcome.shelf);
        } else {
            bounceCounts[letter.from]++;
        }
    }

    private boolean isRoomFor(Box box, int size) {
        return sizesOf(box) + size <= box.quota;
    }

    private int endOf(Box box, int message, int without) {
        box.judge(letters[message], without, outcome);
        return outcome.isThrownAway ? WOULD_BE_THROWN_AWAY : outcome.shelf;
    }

    // ---- how copies change

    private void lay(Box box, Copy copy, int folder) {
        Shelf shelf = box.shelves[folder];
        copy.shelf = folder;
        copy.number = shelf.nextNumber;
        copy.cameAt = clock;
        shelf.nextNumber++;
        restamp(copy);
    }

    private void restamp(Copy copy) {
        latestStamp++;
        copy.stamp = latestStamp;
    }

    private int clearBin(Box box) {
        int gone = 0;
        for (int i = 0; i < letterCount; i++) {
            if (box.copies[i].shelf == BIN) {
                box.copies[i].vanish();
                gone++;
            }
        }
        return gone;
    }

    private int binAll(Box box, int folder) {
        int binned = 0;
        int message = box.nextByNumber(folder, 0);
        while (message != NONE && binned < MOST_MESSAGES) {
            Copy copy = box.copies[message];
            int number = copy.number;
            lay(box, copy, BIN);
            binned++;
            message = box.nextByNumber(folder, number);
        }
        return binned;
    }

    private int clearOldBin(Box box) {
        int gone = 0;
        for (int i = 0; i < letterCount; i++) {
            if (hasLingered(box.copies[i], clock)) {
                box.copies[i].vanish();
                gone++;
            }
        }
        return gone;
    }

    private void binAgedCopies(Box box) {
        for (int folder = 0; folder < box.shelfCount; folder++) {
            binAgedIn(box, folder);
        }
    }

    private void binAgedIn(Box box, int folder) {
        int message = box.nextByNumber(folder, 0);
        for (int i = 0; i < MOST_MESSAGES && message != NONE; i++) {
            Copy copy = box.copies[message];
            int number = copy.number;
            if (hasAged(box, message, clock)) {
                lay(box, copy, BIN);
            }
            message = box.nextByNumber(folder, number);
        }
    }

    private boolean hasLingered(Copy copy, int now) {
        return copy.shelf == BIN && now - copy.cameAt >= linger;
    }

    private boolean hasAged(Box box, int message, int now) {
        Copy copy = box.copies[message];
        if (!copy.isKept() || copy.shelf == BIN || copy.hasMark(STARRED)) {
            return false;
        }
        int age = box.shelves[copy.shelf].age;
        return age > 0 && now - letters[message].sentAt >= age;
    }

    // ---- what is told

    private int sizesOf(Box box) {
        int sum = 0;
        for (int i = 0; i < letterCount; i++) {
            if (box.copies[i].isKept()) {
                sum += letters[i].size;
            }
        }
        return sum;
    }

    private int sizesIn(Box box, int folder) {
        int sum = 0;
        for (int i = 0; i < letterCount; i++) {
            if (box.copies[i].shelf == folder) {
                sum += letters[i].size;
            }
        }
        return sum;
    }

    private int tellOfFolder(Box box, int folder, int what) {
        switch (what) {
            case FOLDER_PARENT:
                return box.shelves[folder].parent;
            case FOLDER_COPIES:
                return box.countIn(folder);
            case FOLDER_NOT_SEEN:
                return box.countNotSeenIn(folder);
            case FOLDER_SIZES:
                return sizesIn(box, folder);
            case FOLDER_NEXT_NUMBER:
                return box.shelves[folder].nextNumber;
            default:
                return box.countWithin(folder);
        }
    }

    // What a MESSAGE ANSWERS is always earlier, so there are fewer steps than MESSAGES.
    private int answerSteps(Box box, int message) {
        int steps = 0;
        int next = letters[message].answers;
        while (steps < MOST_MESSAGES && next != NONE && box.copies[next].isKept()) {
            steps++;
            next = letters[next].answers;
        }
        return steps;
    }

    // A QUERY names only smaller ones, so one way up through the numbers tells all that hold.
    private int queriesThatHold(Box box, int message) {
        int held = 0;
        for (int i = 0; i < queryCount; i++) {
            if (queries[i].holds(letters[message], box, box.copies[message], held)) {
                held |= 1 << i;
            }
        }
        return held;
    }

    private boolean isFound(Box box, int message, int query) {
        return box.copies[message].isKept() && isInSet(queriesThatHold(box, message), query);
    }

    private int foundAt(Box box, int query, int k) {
        int place = 0;
        for (int i = letterCount - 1; i >= 0; i--) {
            if (isFound(box, i, query)) {
                if (place == k) {
                    return i;
                }
                place++;
            }
        }
        return NONE;
    }

    // ---- the checksum

    private static long mix(long d, long v) {
        return d * 31 + v;
    }

    private long mixBox(long d, Box box) {
        threadMap.draw(box, letters, letterCount, window);
        long mixed = mix(d, sizesOf(box));
        mixed = mix(mixed, box.shelfCount);
        mixed = mix(mixed, threadMap.threadCount);
        for (int folder = 0; folder < box.shelfCount; folder++) {
            for (int what = FOLDER_PARENT; what <= FOLDER_AND_BELOW; what++) {
                mixed = mix(mixed, tellOfFolder(box, folder, what));
            }
        }
        for (int message = 0; message < letterCount; message++) {
            mixed = mixCopy(mixed, box, message);
        }
        return mixFinds(mixed, box);
    }

    private long mixCopy(long d, Box box, int message) {
        Copy copy = box.copies[message];
        long mixed = d;
        for (int what = COPY_GOT; what <= COPY_STAMP; what++) {
            mixed = mix(mixed, copy.tell(what));
        }
        if (copy.isKept()) {
            for (int what = THREAD_ROOT; what <= THREAD_NOT_SEEN; what++) {
                mixed = mix(mixed, threadMap.tell(message, what));
            }
            mixed = mix(mixed, answerSteps(box, message));
        }
        return mixed;
    }

    private long mixFinds(long d, Box box) {
        for (int i = 0; i < queryCount; i++) {
            findCounts[i] = 0;
        }
        for (int message = 0; message < letterCount; message++) {
            if (box.copies[message].isKept()) {
                countHeld(queriesThatHold(box, message));
            }
        }
        long mixed = d;
        for (int i = 0; i < queryCount; i++) {
            mixed = mix(mixed, findCounts[i]);
        }
        return mixed;
    }

    private void countHeld(int held) {
        for (int i = 0; i < queryCount; i++) {
            if (isInSet(held, i)) {
                findCounts[i]++;
            }
        }
    }

    /** What a MESSAGE says, sent or only asked about. */
    private static final class Letter {
        int from;
        int subject;
        int words;
        int size;
        int answers = NONE;
        int sentAt;

        void write(int from, int subject, int words, int size, int answers, int sentAt) {
            this.from = from;
            this.subject = subject;
            this.words = words;
            this.size = size;
            this.answers = answers;
            this.sentAt = sentAt;
        }

        boolean hasWord(int word) {
            return isInSet(words, word);
        }
    }

    /** What one PERSON has of one MESSAGE: shelf is the FOLDER in which the COPY lies, NONE without one. */
    private static final class Copy {
        boolean isGot;
        int shelf = NONE;
        int number;
        int marks;
        int stamp;
        int cameAt;

        boolean isKept() {
            return shelf != NONE;
        }

        boolean hasMark(int mark) {
            return isInSet(marks, mark);
        }

        void vanish() {
            shelf = NONE;
            number = 0;
            marks = 0;
            stamp = 0;
        }

        int tell(int what) {
            switch (what) {
                case COPY_GOT:
                    return isGot ? 1 : 0;
                case COPY_FOLDER:
                    return shelf;
                case COPY_NUMBER:
                    return number;
                case COPY_MARKS:
                    return marks;
                default:
                    return stamp;
            }
        }
    }

    /** A FOLDER, but for its COPIES. */
    private static final class Shelf {
        int parent = NONE;
        int age;
        int nextNumber = 1;
    }

    private static final class Rule {
        int asks;
        int a;
        boolean isNot;
        int does;
        int b;
        boolean isLast;

        void setQuestion(int asks, int a, boolean isNot) {
            this.asks = asks;
            this.a = a;
            this.isNot = isNot;
        }

        void setDeed(int does, int b, boolean isLast) {
            this.does = does;
            this.b = b;
            this.isLast = isLast;
        }

        boolean holds(Letter letter) {
            return isSo(letter) != isNot;
        }

        private boolean isSo(Letter letter) {
            switch (asks) {
                case ASKS_FROM:
                    return letter.from == a;
                case ASKS_SUBJECT:
                    return letter.subject == a;
                case ASKS_WORD:
                    return letter.hasWord(a);
                case ASKS_SIZE:
                    return letter.size >= a;
                default:
                    return letter.answers != NONE;
            }
        }
    }

    /** What the RULES of a PERSON tell of a MESSAGE. */
    private static final class Outcome {
        boolean isThrownAway;
        int shelf;
        int marks;
        final int[] goesOn = new int[MOST_RULES];
        int goesOnCount;

        void clear() {
            isThrownAway = false;
            shelf = IN;
            marks = 0;
            goesOnCount = 0;
        }

        void obey(Rule rule) {
            switch (rule.does) {
                case DOES_PUT:
                    shelf = rule.b;
                    break;
                case DOES_STAR:
                    marks |= 1 << STARRED;
                    break;
                case DOES_SEE:
                    marks |= 1 << SEEN;
                    break;
                case DOES_GO_ON:
                    addGoesOn(rule.b);
                    break;
                default:
                    isThrownAway = true;
                    break;
            }
        }

        private void addGoesOn(int person) {
            if (goesOnCount < goesOn.length) {
                goesOn[goesOnCount] = person;
                goesOnCount++;
            }
        }
    }

    /** The PEOPLE who get a MESSAGE, each once, in the order in which it comes to them. */
    private static final class Route {
        final int[] people = new int[PEOPLE];
        int length;
        int set;

        void clear() {
            length = 0;
            set = 0;
        }

        void add(int person) {
            if (!isInSet(set, person) && length < people.length) {
                people[length] = person;
                length++;
                set |= 1 << person;
            }
        }
    }

    private static final class Query {
        int kind;
        int a;
        int b;

        void write(int kind, int a, int b) {
            this.kind = kind;
            this.a = a;
            this.b = b;
        }

        // It names QUERIES with smaller numbers alone, so the set of those that hold is enough to tell.
        boolean holds(Letter letter, Box box, Copy copy, int held) {
            switch (kind) {
                case KIND_FROM:
                    return letter.from == a;
                case KIND_SUBJECT:
                    return letter.subject == a;
                case KIND_WORD:
                    return letter.hasWord(a);
                case KIND_SIZE:
                    return letter.size >= a;
                case KIND_MARK:
                    return copy.hasMark(a);
                case KIND_FOLDER:
                    return box.isWithin(copy.shelf, a);
                case KIND_SENT:
                    return letter.sentAt >= a;
                case KIND_NOT:
                    return !isInSet(held, a);
                case KIND_BOTH:
                    return isInSet(held, a) && isInSet(held, b);
                default:
                    return isInSet(held, a) || isInSet(held, b);
            }
        }
    }

    /** The BOX of a PERSON with its FOLDERS, RULES and COPIES; the COPY of a MESSAGE stands at its number. */
    private static final class Box {
        final Shelf[] shelves = new Shelf[MOST_FOLDERS];
        int shelfCount = 2;
        final Rule[] rules = new Rule[MOST_RULES];
        int ruleCount;
        final Copy[] copies = new Copy[MOST_MESSAGES];
        int quota = 200;

        Box() {
            for (int i = 0; i < shelves.length; i++) {
                shelves[i] = new Shelf();
            }
            for (int i = 0; i < rules.length; i++) {
                rules[i] = new Rule();
            }
            for (int i = 0; i < copies.length; i++) {
                copies[i] = new Copy();
            }
        }

        boolean hasShelf(int folder) {
            return folder >= 0 && folder < shelfCount;
        }

        boolean isWithin(int folder, int top) {
            int next = folder;
            for (int i = 0; i < MOST_FOLDERS && hasShelf(next); i++) {
                if (next == top) {
                    return true;
                }
                next = shelves[next].parent;
            }
            return false;
        }

        int countIn(int folder) {
            int count = 0;
            for (int i = 0; i < copies.length; i++) {
                if (copies[i].shelf == folder) {
                    count++;
                }
            }
            return count;
        }

        int countNotSeenIn(int folder) {
            int count = 0;
            for (int i = 0; i < copies.length; i++) {
                if (copies[i].shelf == folder && !copies[i].hasMark(SEEN)) {
                    count++;
                }
            }
            return count;
        }

        int countWithin(int top) {
            int count = 0;
            for (int i = 0; i < copies.length; i++) {
                if (isWithin(copies[i].shelf, top)) {
                    count++;
                }
            }
            return count;
        }

        int nextByNumber(int folder, int number) {
            int next = NONE;
            for (int i = 0; i < copies.length; i++) {
                Copy copy = copies[i];
                boolean isBehind = copy.shelf == folder && copy.number > number;
                if (isBehind && (next == NONE || copy.number < copies[next].number)) {
                    next = i;
                }
            }
            return next;
        }

        void removeRule(int place) {
            Rule removed = rules[place];
            for (int i = place; i + 1 < ruleCount; i++) {
                rules[i] = rules[i + 1];
            }
            ruleCount--;
            // It is kept behind the others, so that no place is ever without a RULE to write on.
            rules[ruleCount] = removed;
        }

        void judge(Letter letter, int without, Outcome outcome) {
            outcome.clear();
            boolean isOver = false;
            for (int i = 0; i < ruleCount && !isOver; i++) {
                Rule rule = rules[i];
                if (i != without && rule.holds(letter)) {
                    outcome.obey(rule);
                    isOver = rule.isLast;
                }
            }
        }
    }

    /** The THREADS of one BOX, as they are when it is drawn: each told at the number of its ROOT. */
    private static final class ThreadMap {
        final int[] roots = new int[MOST_MESSAGES];
        final int[] copyCounts = new int[MOST_MESSAGES];
        final int[] notSeenCounts = new int[MOST_MESSAGES];
        final int[] reached = new int[MOST_MESSAGES];
        int reachedCount;
        int threadCount;

        void draw(Box box, Letter[] letters, int letterCount, int window) {
            threadCount = 0;
            for (int i = 0; i < letterCount; i++) {
                roots[i] = NONE;
                copyCounts[i] = 0;
                notSeenCounts[i] = 0;
            }
            for (int i = 0; i < letterCount; i++) {
                if (isLoose(box, i)) {
                    threadCount++;
                    follow(box, letters, letterCount, window, i);
                }
            }
        }

        int tell(int message, int what) {
            int root = roots[message];
            if (what == THREAD_ROOT || root == NONE) {
                return root;
            }
            return what == THREAD_COPIES ? copyCounts[root] : notSeenCounts[root];
        }

        private boolean isLoose(Box box, int message) {
            return roots[message] == NONE && box.copies[message].isKept();
        }

        // The first MESSAGE from which a THREAD is followed is its smallest one, as they are tried in order.
        private void follow(Box box, Letter[] letters, int letterCount, int window, int root) {
            reachedCount = 0;
            reach(box, root, root);
            for (int i = 0; i < MOST_MESSAGES && i < reachedCount; i++) {
                for (int other = 0; other < letterCount; other++) {
                    if (isLoose(box, other) && areBeside(letters, reached[i], other, window)) {
                        reach(box, other, root);
                    }
                }
            }
        }

        private void reach(Box box, int message, int root) {
            roots[message] = root;
            copyCounts[root]++;
            if (!box.copies[message].hasMark(SEEN)) {
                notSeenCounts[root]++;
            }
            if (reachedCount < reached.length) {
                reached[reachedCount] = message;
                reachedCount++;
            }
        }

        private static boolean areBeside(Letter[] letters, int one, int other, int window) {
            if (letters[one].answers == other || letters[other].answers == one) {
                return true;
            }
            return letters[one].subject == letters[other].subject
                    && Math.abs(letters[one].sentAt - letters[other].sentAt) <= window;
        }
    }
}
