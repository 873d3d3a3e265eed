import java.util.ArrayDeque;
import java.util.ArrayList;
import java.util.Collections;
import java.util.HashMap;
import java.util.HashSet;
import java.util.List;
import java.util.Map;
import java.util.Set;
import java.util.TreeMap;
import java.util.TreeSet;

/** The document said once more with the Java library, built in another way than the class, to compare with it. */
final class MailModel {

    record Message(int from, int subject, int words, int size, int answers, int sent) {
        boolean has(int word) {
            return (words & (1 << word)) != 0;
        }
    }

    record Rule(int asks, int a, boolean isNot, int does, int b, boolean isLast) {
        boolean holds(Message m) {
            boolean so = switch (asks) {
                case 0 -> m.from() == a;
                case 1 -> m.subject() == a;
                case 2 -> m.has(a);
                case 3 -> m.size() >= a;
                default -> m.answers() >= 0;
            };
            return isNot ? !so : so;
        }
    }

    record Query(int kind, int a, int b) { }

    static final class Copy {
        int number;
        int stamp;
        int came;
        final Set<String> marks = new TreeSet<>();
    }

    /** A folder holds its copies by message, in the order in which they came to lie in it. */
    static final class Folder {
        int parent = -1;
        int age;
        int given;
        final List<Integer> order = new ArrayList<>();
    }

    static final class Box {
        int quota = 200;
        final List<Folder> folders = new ArrayList<>(List.of(new Folder(), new Folder()));
        final List<Rule> rules = new ArrayList<>();
        final Set<Integer> got = new HashSet<>();
        final TreeMap<Integer, Copy> copies = new TreeMap<>();
    }

    final List<Box> boxes = List.of(new Box(), new Box(), new Box(), new Box());
    final List<Message> sent = new ArrayList<>();
    final List<Query> queries = new ArrayList<>();
    final Map<Integer, Integer> bounced = new HashMap<>();
    int clock;
    int linger = 20;
    int window = 10;
    int stamps;

    // ---- tests

    Box box(int person) {
        bounds(person >= 0 && person <= 3);
        return boxes.get(person);
    }

    Folder in(Box box, int folder) {
        bounds(folder >= 0 && folder < box.folders.size());
        return box.folders.get(folder);
    }

    Copy kept(Box box, int message) {
        bounds(box.copies.containsKey(message));
        return box.copies.get(message);
    }

    static void bounds(boolean fine) {
        if (!fine) {
            throw new IndexOutOfBoundsException();
        }
    }

    static void argument(boolean fine) {
        if (!fine) {
            throw new IllegalArgumentException();
        }
    }

    static void state(boolean fine) {
        if (!fine) {
            throw new IllegalStateException();
        }
    }

    static void says(int from, int subject, int words, int size) {
        argument(from >= 0 && from <= 9 && subject >= 0 && subject <= 99);
        argument(words >= 0 && words <= 255 && size >= 1 && size <= 50);
    }

    // ---- folders, rules

    Set<Integer> below(Box box, int folder) {
        Set<Integer> all = new HashSet<>();
        for (int f = 0; f < box.folders.size(); f++) {
            if (box.folders.get(f).parent == folder) {
                all.add(f);
                all.addAll(below(box, f));
            }
        }
        return all;
    }

    int folder(int person, int parent) {
        Box box = box(person);
        in(box, parent);
        argument(parent != 1);
        state(box.folders.size() < 8);
        Folder folder = new Folder();
        folder.parent = parent;
        box.folders.add(folder);
        return box.folders.size() - 1;
    }

    int nest(int person, int folder, int parent) {
        Box box = box(person);
        Folder f = in(box, folder);
        in(box, parent);
        argument(folder > 1 && parent != 1 && parent != folder && !below(box, folder).contains(parent));
        int before = f.parent;
        f.parent = parent;
        return before;
    }

    int setAge(int person, int folder, int age) {
        Folder f = in(box(person), folder);
        argument(age >= 0 && age <= 200);
        int before = f.age;
        f.age = age;
        return before;
    }

    int setQuota(int person, int quota) {
        Box box = box(person);
        argument(quota >= 1 && quota <= 2000);
        int before = box.quota;
        box.quota = quota;
        return before;
    }

    int setLinger(int ticks, int apart) {
        argument(ticks >= 1 && ticks <= 100 && apart >= 0 && apart <= 50);
        int before = linger;
        linger = ticks;
        window = apart;
        return before;
    }

    int rule(int person, int asks, int a, boolean isNot, int does, int b, boolean isLast) {
        Box box = box(person);
        argument(asks >= 0 && asks <= 4);
        argument(asks != 0 || a >= 0 && a <= 9);
        argument(asks != 1 || a >= 0 && a <= 99);
        argument(asks != 2 || a >= 0 && a <= 7);
        argument(asks != 3 || a >= 1 && a <= 50);
        argument(does >= 0 && does <= 4);
        argument(does != 0 || b >= 0 && b < box.folders.size());
        argument(does != 3 || b >= 0 && b <= 3 && b != person);
        state(box.rules.size() < 6);
        box.rules.add(new Rule(asks, a, isNot, does, b, isLast));
        return box.rules.size();
    }

    int unrule(int person, int rule) {
        Box box = box(person);
        bounds(rule >= 0 && rule < box.rules.size());
        box.rules.remove(rule);
        return box.rules.size();
    }

    int folders(int person) {
        return box(person).folders.size();
    }

    int ofFolder(int person, int folder, int what) {
        Box box = box(person);
        Folder f = in(box, folder);
        argument(what >= 0 && what <= 5);
        return switch (what) {
            case 0 -> f.parent;
            case 1 -> f.order.size();
            case 2 -> (int) f.order.stream().filter(m -> !box.copies.get(m).marks.contains("seen")).count();
            case 3 -> f.order.stream().mapToInt(m -> sent.get(m).size()).sum();
            case 4 -> f.given + 1;
            default -> f.order.size() + below(box, folder).stream()
                    .mapToInt(g -> box.folders.get(g).order.size()).sum();
        };
    }

    // ---- messages

    /** The rules that are done for a message, but the one left out. */
    static List<Rule> done(Box box, Message m, int without) {
        List<Rule> all = new ArrayList<>();
        for (int i = 0; i < box.rules.size(); i++) {
            Rule rule = box.rules.get(i);
            if (i == without || !rule.holds(m)) {
                continue;
            }
            all.add(rule);
            if (rule.isLast()) {
                return all;
            }
        }
        return all;
    }

    static boolean does(List<Rule> done, int does) {
        return done.stream().anyMatch(rule -> rule.does() == does);
    }

    /** The folder, or -1 if it is thrown away. */
    static int end(List<Rule> done) {
        int folder = 0;
        for (Rule rule : done) {
            folder = rule.does() == 0 ? rule.b() : folder;
        }
        return does(done, 4) ? -1 : folder;
    }

    int send(int from, int to, int subject, int words, int size, int answers) {
        bounds(answers >= -1 && answers < sent.size());
        argument(to >= 0 && to <= 15);
        says(from, subject, words, size);
        state(sent.size() < 60);
        int message = sent.size();
        Message m = new Message(from, subject, words, size, answers, clock);
        sent.add(m);
        ArrayDeque<Integer> coming = new ArrayDeque<>();
        for (int p = 0; p < 4; p++) {
            if ((to & (1 << p)) != 0) {
                coming.add(p);
            }
        }
        while (!coming.isEmpty()) {
            Box box = boxes.get(coming.poll());
            if (box.got.add(message)) {
                List<Rule> done = done(box, m, -1);
                done.stream().filter(rule -> rule.does() == 3).forEach(rule -> coming.add(rule.b()));
                come(box, message, done);
            }
        }
        return message;
    }

    void come(Box box, int message, List<Rule> done) {
        Message m = sent.get(message);
        if (end(done) == -1) {
            return;
        }
        if (full(box) + m.size() > box.quota) {
            bounced.merge(m.from(), 1, Integer::sum);
            return;
        }
        Copy copy = new Copy();
        if (does(done, 1)) {
            copy.marks.add("starred");
        }
        if (does(done, 2)) {
            copy.marks.add("seen");
        }
        box.copies.put(message, copy);
        put(box, message, end(done));
    }

    void put(Box box, int message, int folder) {
        Copy copy = box.copies.get(message);
        box.folders.forEach(f -> f.order.remove(Integer.valueOf(message)));
        Folder f = box.folders.get(folder);
        f.order.add(message);
        copy.number = ++f.given;
        copy.came = clock;
        copy.stamp = ++stamps;
    }

    void gone(Box box, int message) {
        box.folders.forEach(f -> f.order.remove(Integer.valueOf(message)));
        box.copies.remove(message);
    }

    static int where(Box box, int message) {
        for (int f = 0; f < box.folders.size(); f++) {
            if (box.folders.get(f).order.contains(message)) {
                return f;
            }
        }
        return -1;
    }

    List<Integer> goneAt(Box box, int time) {
        return box.folders.get(1).order.stream().filter(m -> box.copies.get(m).came <= time - linger).toList();
    }

    List<Integer> movedAt(Box box, int time) {
        List<Integer> moved = new ArrayList<>();
        for (int f = 0; f < box.folders.size(); f++) {
            Folder folder = box.folders.get(f);
            if (f == 1 || folder.age == 0) {
                continue;
            }
            for (int m : folder.order) {
                if (!box.copies.get(m).marks.contains("starred") && sent.get(m).sent() <= time - folder.age) {
                    moved.add(m);
                }
            }
        }
        return moved;
    }

    int setClock(int time) {
        argument(time > clock && time <= 9999);
        clock = time;
        int count = 0;
        for (Box box : boxes) {
            List<Integer> gone = goneAt(box, time);
            gone.forEach(m -> gone(box, m));
            count += gone.size();
            movedAt(box, time).forEach(m -> put(box, m, 1));
        }
        return count;
    }

    boolean mark(int person, int message, int mark, boolean isOn) {
        Copy copy = kept(box(person), message);
        argument(mark == 0 || mark == 1);
        String name = mark == 0 ? "seen" : "starred";
        boolean was = copy.marks.contains(name);
        if (isOn ? copy.marks.add(name) : copy.marks.remove(name)) {
            copy.stamp = ++stamps;
        }
        return was;
    }

    int move(int person, int message, int folder) {
        Box box = box(person);
        Copy copy = kept(box, message);
        in(box, folder);
        if (where(box, message) != folder) {
            put(box, message, folder);
        }
        return copy.number;
    }

    int empty(int person, int folder) {
        Box box = box(person);
        List<Integer> all = List.copyOf(in(box, folder).order);
        for (int m : all) {
            if (folder == 1) {
                gone(box, m);
            } else {
                put(box, m, 1);
            }
        }
        return all.size();
    }

    int messages() {
        return sent.size();
    }

    int copy(int person, int message, int what) {
        Box box = box(person);
        bounds(message >= 0 && message < sent.size());
        argument(what >= 0 && what <= 4);
        Copy copy = box.copies.get(message);
        if (what == 0) {
            return box.got.contains(message) ? 1 : 0;
        }
        if (copy == null) {
            return what == 1 ? -1 : 0;
        }
        return switch (what) {
            case 1 -> where(box, message);
            case 2 -> copy.number;
            case 3 -> (copy.marks.contains("seen") ? 1 : 0) + (copy.marks.contains("starred") ? 2 : 0);
            default -> copy.stamp;
        };
    }

    int at(int person, int folder, int k) {
        Folder f = in(box(person), folder);
        bounds(k >= 0 && k < f.order.size());
        return f.order.get(k);
    }

    int full(Box box) {
        return box.copies.keySet().stream().mapToInt(m -> sent.get(m).size()).sum();
    }

    int full(int person) {
        return full(box(person));
    }

    int bounces(int address) {
        bounds(address >= 0 && address <= 9);
        return bounced.getOrDefault(address, 0);
    }

    int stamp() {
        return stamps;
    }

    int since(int person, int folder, int stamp) {
        Box box = box(person);
        return (int) in(box, folder).order.stream().filter(m -> box.copies.get(m).stamp > stamp).count();
    }

    // ---- threads, searches

    boolean beside(int m, int n) {
        Message x = sent.get(m);
        Message y = sent.get(n);
        boolean near = x.sent() + window >= y.sent() && y.sent() + window >= x.sent();
        return x.answers() == n || y.answers() == m || x.subject() == y.subject() && near;
    }

    /** The sets of copies, joined two by two as long as one is beside one of another. */
    List<TreeSet<Integer>> joined(Box box) {
        List<TreeSet<Integer>> sets = new ArrayList<>();
        for (int m : box.copies.keySet()) {
            TreeSet<Integer> own = new TreeSet<>(List.of(m));
            for (TreeSet<Integer> set : List.copyOf(sets)) {
                if (set.stream().anyMatch(n -> beside(m, n))) {
                    own.addAll(set);
                    sets.removeIf(other -> other == set);
                }
            }
            sets.add(own);
        }
        return sets;
    }

    int threads(int person) {
        return joined(box(person)).size();
    }

    int ofThread(int person, int message, int what) {
        Box box = box(person);
        kept(box, message);
        argument(what >= 0 && what <= 3);
        if (what == 3) {
            int next = sent.get(message).answers();
            return box.copies.containsKey(next) ? 1 + ofThread(person, next, 3) : 0;
        }
        TreeSet<Integer> thread = joined(box).stream().filter(set -> set.contains(message)).findFirst().orElseThrow();
        return switch (what) {
            case 0 -> thread.first();
            case 1 -> thread.size();
            default -> (int) thread.stream().filter(m -> !box.copies.get(m).marks.contains("seen")).count();
        };
    }

    int query(int kind, int a, int b) {
        argument(kind >= 0 && kind <= 9);
        int least = kind == 3 ? 1 : 0;
        int[] most = {9, 99, 7, 50, 1, 7, Integer.MAX_VALUE, queries.size() - 1, queries.size() - 1, queries.size() - 1};
        argument(a >= least && a <= most[kind]);
        argument(kind < 8 || b >= 0 && b < queries.size());
        state(queries.size() < 20);
        queries.add(new Query(kind, a, b));
        return queries.size() - 1;
    }

    Set<Integer> holding(Box box, int query) {
        Query q = queries.get(query);
        Set<Integer> all = new TreeSet<>(box.copies.keySet());
        switch (q.kind()) {
            case 0 -> all.removeIf(m -> sent.get(m).from() != q.a());
            case 1 -> all.removeIf(m -> sent.get(m).subject() != q.a());
            case 2 -> all.removeIf(m -> !sent.get(m).has(q.a()));
            case 3 -> all.removeIf(m -> sent.get(m).size() < q.a());
            case 4 -> all.removeIf(m -> !box.copies.get(m).marks.contains(q.a() == 0 ? "seen" : "starred"));
            case 5 -> all.removeIf(m -> where(box, m) != q.a() && !below(box, q.a()).contains(where(box, m)));
            case 6 -> all.removeIf(m -> sent.get(m).sent() < q.a());
            case 7 -> all.removeAll(holding(box, q.a()));
            case 8 -> {
                all.retainAll(holding(box, q.a()));
                all.retainAll(holding(box, q.b()));
            }
            default -> {
                all = new TreeSet<>(holding(box, q.a()));
                all.addAll(holding(box, q.b()));
            }
        }
        return all;
    }

    List<Integer> finding(int person, int query) {
        Box box = box(person);
        bounds(query >= 0 && query < queries.size());
        List<Integer> all = new ArrayList<>(holding(box, query));
        all.sort(Collections.reverseOrder());
        return all;
    }

    int finds(int person, int query) {
        return finding(person, query).size();
    }

    int found(int person, int query, int k) {
        List<Integer> all = finding(person, query);
        bounds(k >= 0 && k < all.size());
        return all.get(k);
    }

    double meanSize(int person) {
        return box(person).copies.keySet().stream().mapToInt(m -> sent.get(m).size()).average().orElse(0);
    }

    // ---- what would be

    int wouldLie(int person, int from, int subject, int words, int size) {
        Box box = box(person);
        says(from, subject, words, size);
        int end = end(done(box, new Message(from, subject, words, size, -1, clock), -1));
        return end >= 0 && full(box) + size > box.quota ? -2 : end;
    }

    int wouldGet(int to, int from, int subject, int words, int size) {
        argument(to >= 0 && to <= 15);
        says(from, subject, words, size);
        Message m = new Message(from, subject, words, size, -1, clock);
        int all = to;
        for (int round = 0; round < 4; round++) {
            for (int p = 0; p < 4; p++) {
                if ((all & (1 << p)) != 0) {
                    for (Rule rule : done(boxes.get(p), m, -1)) {
                        all |= rule.does() == 3 ? 1 << rule.b() : 0;
                    }
                }
            }
        }
        return all;
    }

    int wouldAge(int person, int time) {
        Box box = box(person);
        argument(time > clock && time <= 9999);
        return 100 * goneAt(box, time).size() + movedAt(box, time).size();
    }

    int wouldMiss(int person, int rule) {
        Box box = box(person);
        bounds(rule >= 0 && rule < box.rules.size());
        return (int) box.got.stream()
                .filter(m -> end(done(box, sent.get(m), -1)) != end(done(box, sent.get(m), rule))).count();
    }

    long digest() {
        List<Long> all = new ArrayList<>();
        all.add((long) messages());
        all.add((long) stamp());
        for (int address = 0; address < 10; address++) {
            all.add((long) bounces(address));
        }
        for (int p = 0; p < 4; p++) {
            all.add((long) full(p));
            all.add((long) folders(p));
            all.add((long) threads(p));
            for (int f = 0; f < folders(p); f++) {
                for (int what = 0; what < 6; what++) {
                    all.add((long) ofFolder(p, f, what));
                }
            }
            for (int m = 0; m < messages(); m++) {
                for (int what = 0; what < 5; what++) {
                    all.add((long) copy(p, m, what));
                }
                if (copy(p, m, 1) != -1) {
                    for (int what = 0; what < 4; what++) {
                        all.add((long) ofThread(p, m, what));
                    }
                }
            }
            for (int q = 0; q < queries.size(); q++) {
                all.add((long) finds(p, q));
            }
        }
        long d = 2689;
        for (long v : all) {
            d = d * 31 + v;
        }
        return d;
    }
}
