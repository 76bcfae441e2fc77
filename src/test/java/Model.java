import java.util.ArrayList;
import java.util.Arrays;
import java.util.Comparator;
import java.util.List;
import java.util.Map;
import java.util.NavigableSet;
import java.util.TreeMap;
import java.util.TreeSet;

/**
 * A model of the document with the same face as the class, held another way: maps with a comparator,
 * views as sets of keys, the walk as a set of told keys.
 */
final class Model {
    final Book[] books = new Book[4];
    final Shelf[] shelves = new Shelf[3];
    final View[] views = new View[2];
    final int[] house = new int[4];
    Book walked;
    boolean broken;
    int toldKey = -1;
    TreeSet<Integer> toldKeys = new TreeSet<>();

    Model() {
        for (int i = 0; i < 4; i++) {
            books[i] = new Book(0);
        }
        for (int i = 0; i < 3; i++) {
            shelves[i] = new Shelf(0);
        }
        for (int i = 0; i < 2; i++) {
            views[i] = new View();
            views[i].book = books[i];
            Arrays.fill(views[i].within, true);
        }
    }

    static void place(int... places) {
        for (int p : places) {
            index(p, 3);
        }
    }

    static void index(int i, int most) {
        if (i < 0 || i > most) {
            throw new IndexOutOfBoundsException();
        }
    }

    static void upTo(int most, int... numbers) {
        for (int n : numbers) {
            if (n < 0 || n > most) {
                throw new IllegalArgumentException();
            }
        }
    }

    static void worthOrNone(int worth) {
        if (worth < -1 || worth > 99) {
            throw new IllegalArgumentException();
        }
    }

    int refused() {
        house[2]++;
        return -9;
    }

    int act(int answer) {
        house[0]++;
        return answer;
    }

    int shelfAct(int answer) {
        house[1]++;
        return answer;
    }

    interface Writing {
        int write(TreeMap<Integer, Integer> pairs);
    }

    int written(Book book, Writing writing) {
        TreeSet<Integer> before = new TreeSet<>(book.pairs.keySet());
        int answer = writing.write(book.pairs);
        if (book == walked) {
            toldKey = -1;
            broken |= !before.equals(new TreeSet<>(book.pairs.keySet()));
        }
        return act(answer);
    }

    static int or(Integer number) {
        return number == null ? -1 : number;
    }

    static int pair(Map.Entry<Integer, Integer> e) {
        return e == null ? -1 : e.getKey() * 100 + e.getValue();
    }

    static int hash(Book b) {
        int sum = 0;
        for (Map.Entry<Integer, Integer> e : b.pairs.entrySet()) {
            for (int bit = 1; bit < 128; bit *= 2) {
                if ((e.getKey() / bit) % 2 != (e.getValue() / bit) % 2) {
                    sum += bit;
                }
            }
        }
        return sum;
    }

    static int sum(Iterable<Integer> numbers) {
        int sum = 0;
        for (int n : numbers) {
            sum += n;
        }
        return sum;
    }

    int freshBook(int book, int order) {
        place(book);
        upTo(2, order);
        int former = books[book].pairs.size();
        books[book] = new Book(order);
        return act(former);
    }

    int buildBook(int into, int from, int how) {
        place(into, from);
        upTo(6, how);
        books[into] = new Book(how >= 4 ? how - 4 : books[from].order).with(books[from].pairs);
        return act(books[into].pairs.size());
    }

    int splitBook(int book, int key, int into) {
        place(book, into);
        upTo(99, key);
        if (book == into) {
            return refused();
        }
        return written(books[book], pairs -> {
            Map<Integer, Integer> tail = pairs.tailMap(key, true);
            books[into] = new Book(books[book].order).with(tail);
            tail.clear();
            return books[into].pairs.size();
        });
    }

    int fill(int book, int first, int step, int many, int worth) {
        place(book);
        upTo(99, first, step);
        upTo(100, many);
        worthOrNone(worth);
        return written(books[book], pairs -> {
            int changed = 0;
            for (int j = 0; j < many; j++) {
                int key = (first + j * step) % 100;
                boolean isThere = pairs.containsKey(key);
                if (worth == -1) {
                    pairs.remove(key);
                } else {
                    pairs.put(key, (worth + j) % 100);
                }
                changed += isThere == (worth == -1) ? 1 : 0;
            }
            return changed;
        });
    }

    int pour(int book, int from) {
        place(book, from);
        if (book == from) {
            return refused();
        }
        return written(books[book], pairs -> {
            int former = pairs.size();
            pairs.putAll(books[from].pairs);
            return pairs.size() - former;
        });
    }

    int keep(int book, int other, boolean isInside) {
        place(book, other);
        if (book == other) {
            return refused();
        }
        return written(books[book], pairs -> {
            int former = pairs.size();
            pairs.keySet().removeIf(key -> books[other].pairs.containsKey(key) != isInside);
            return former - pairs.size();
        });
    }

    int put(int book, int key, int worth, int what) {
        place(book);
        upTo(99, key, worth);
        upTo(2, what);
        return written(books[book], pairs -> {
            if (what == 1) {
                return or(pairs.putIfAbsent(key, worth));
            }
            return or(what == 0 ? pairs.put(key, worth) : pairs.replace(key, worth));
        });
    }

    int exchange(int book, int key, int old, int worth) {
        place(book);
        upTo(99, key, old);
        worthOrNone(worth);
        return written(books[book], pairs ->
                (worth == -1 ? pairs.remove(key, (Integer) old) : pairs.replace(key, old, worth)) ? 1 : 0);
    }

    int take(int book, int key) {
        place(book);
        upTo(99, key);
        return written(books[book], pairs -> or(pairs.remove(key)));
    }

    int drop(int book, int what) {
        place(book);
        upTo(2, what);
        return written(books[book], pairs -> {
            if (what == 2) {
                int many = pairs.size();
                pairs.clear();
                return many;
            }
            return pair(what == 0 ? pairs.pollFirstEntry() : pairs.pollLastEntry());
        });
    }

    boolean has(int book, boolean isKey, int number) {
        place(book);
        upTo(99, number);
        return isKey ? books[book].pairs.containsKey(number) : books[book].pairs.containsValue(number);
    }

    static Map.Entry<Integer, Integer> nearOf(TreeMap<Integer, Integer> pairs, int key, int what) {
        switch (what) {
            case 0: return pairs.floorEntry(key);
            case 1: return pairs.ceilingEntry(key);
            case 2: return pairs.lowerEntry(key);
            case 3: return pairs.higherEntry(key);
            default: return pairs.containsKey(key) ? pairs.floorEntry(key) : null;
        }
    }

    int near(int book, int key, int what, boolean isPair) {
        place(book);
        upTo(99, key);
        upTo(4, what);
        Map.Entry<Integer, Integer> e = nearOf(books[book].pairs, key, what);
        return isPair ? pair(e) : e == null ? -1 : e.getKey();
    }

    int end(int book, boolean isLast, boolean isPair) {
        place(book);
        TreeMap<Integer, Integer> pairs = books[book].pairs;
        if (isPair) {
            return pair(isLast ? pairs.lastEntry() : pairs.firstEntry());
        }
        return pairs.isEmpty() ? refused() : isLast ? pairs.lastKey() : pairs.firstKey();
    }

    int keyAt(int book, int many, boolean isBack) {
        place(book);
        upTo(99, many);
        TreeMap<Integer, Integer> pairs = books[book].pairs;
        List<Integer> keys = new ArrayList<>(isBack ? pairs.descendingKeySet() : pairs.keySet());
        return many < keys.size() ? keys.get(many) : -1;
    }

    int tellBook(int book, int what) {
        place(book);
        upTo(3, what);
        int size = books[book].pairs.size();
        return what == 0 ? size : what == 1 ? books[book].order : what == 2 ? hash(books[book]) : size == 0 ? 1 : 0;
    }

    String bookText(int book) {
        place(book);
        return books[book].pairs.toString();
    }

    boolean sameBooks(int book, int other) {
        place(book, other);
        return books[book].pairs.equals(books[other].pairs);
    }

    int openView(int view, int book, int kind, int low, int high, int ends) {
        index(view, 1);
        place(book);
        upTo(2, kind);
        upTo(99, low, high);
        upTo(3, ends);
        int order = books[book].order;
        if (kind == 2 && ahead(order, high, low)) {
            return refused();
        }
        views[view].book = books[book];
        for (int key = 0; key < 100; key++) {
            boolean isBehindLow = ahead(order, low, key) || (key == low && (ends == 1 || ends == 3));
            boolean isAheadOfHigh = ahead(order, key, high) || (key == high && ends >= 2);
            views[view].within[key] = (kind == 0 || isBehindLow) && (kind == 1 || isAheadOfHigh);
        }
        return views[view].pairs().size();
    }

    int narrowView(int view, int kind, int low, int high) {
        index(view, 1);
        upTo(2, kind);
        upTo(99, low, high);
        View v = views[view];
        int order = v.book.order;
        if ((kind != 0 && !v.within[low]) || (kind != 1 && !v.within[high])
                || (kind == 2 && ahead(order, high, low))) {
            return refused();
        }
        for (int key = 0; key < 100; key++) {
            v.within[key] &= (kind == 0 || !ahead(order, key, low)) && (kind == 1 || !ahead(order, high, key));
        }
        return v.pairs().size();
    }

    int buildFromView(int into, int view, int how) {
        place(into);
        index(view, 1);
        upTo(1, how);
        books[into] = new Book(views[view].book.order).with(views[view].pairs());
        return act(books[into].pairs.size());
    }

    int viewPut(int view, int key, int worth) {
        index(view, 1);
        upTo(99, key, worth);
        if (!views[view].within[key]) {
            return refused();
        }
        return written(views[view].book, pairs -> or(pairs.put(key, worth)));
    }

    int viewTake(int view, int key) {
        index(view, 1);
        upTo(99, key);
        return written(views[view].book, pairs -> views[view].within[key] ? or(pairs.remove(key)) : -1);
    }

    int viewDrop(int view, int what) {
        index(view, 1);
        upTo(2, what);
        return written(views[view].book, pairs -> {
            TreeMap<Integer, Integer> part = views[view].pairs();
            if (what == 2) {
                pairs.keySet().removeAll(part.keySet());
                return part.size();
            }
            Map.Entry<Integer, Integer> e = what == 0 ? part.firstEntry() : part.lastEntry();
            if (e != null) {
                pairs.remove(e.getKey());
            }
            return pair(e);
        });
    }

    int viewNear(int view, int key, int what) {
        index(view, 1);
        upTo(99, key);
        upTo(4, what);
        return pair(nearOf(views[view].pairs(), key, what));
    }

    int viewTell(int view, int what) {
        index(view, 1);
        upTo(3, what);
        TreeMap<Integer, Integer> part = views[view].pairs();
        if (what == 0) {
            return part.size();
        }
        if (what == 3) {
            return sum(part.values());
        }
        return part.isEmpty() ? refused() : what == 1 ? part.firstKey() : part.lastKey();
    }

    int startWalk(int book) {
        place(book);
        walked = books[book];
        broken = false;
        toldKey = -1;
        toldKeys = new TreeSet<>(comparator(walked.order));
        return walked.pairs.size();
    }

    boolean isGoing() {
        return walked != null && !broken;
    }

    int walkNext() {
        if (!isGoing()) {
            return refused();
        }
        for (int key : walked.pairs.keySet()) {
            if (toldKeys.isEmpty() || ahead(walked.order, toldKeys.last(), key)) {
                toldKeys.add(key);
                toldKey = key;
                return key * 100 + walked.pairs.get(key);
            }
        }
        return -1;
    }

    int walkSet(int worth) {
        upTo(99, worth);
        return toldKey == -1 ? refused() : act(walked.pairs.put(toldKey, worth));
    }

    int walkTake() {
        if (toldKey == -1) {
            return refused();
        }
        int pair = toldKey * 100 + walked.pairs.remove(toldKey);
        toldKey = -1;
        return act(pair);
    }

    int freshShelf(int shelf, int order) {
        index(shelf, 2);
        upTo(2, order);
        int former = shelves[shelf].keys.size();
        shelves[shelf] = new Shelf(order);
        return shelfAct(former);
    }

    int buildShelf(int into, int from, int how) {
        index(into, 2);
        index(from, 2);
        upTo(6, how);
        shelves[into] = new Shelf(how >= 4 ? how - 4 : shelves[from].order).with(shelves[from].keys);
        return shelfAct(shelves[into].keys.size());
    }

    int keysOf(int shelf, int book) {
        index(shelf, 2);
        place(book);
        shelves[shelf] = new Shelf(0).with(books[book].pairs.keySet());
        return shelfAct(shelves[shelf].keys.size());
    }

    int lay(int shelf, int first, int step, int many, boolean isAdding) {
        index(shelf, 2);
        upTo(99, first, step);
        upTo(100, many);
        TreeSet<Integer> keys = shelves[shelf].keys;
        int changed = 0;
        for (int j = 0; j < many; j++) {
            int key = (first + j * step) % 100;
            changed += (isAdding ? keys.add(key) : keys.remove(key)) ? 1 : 0;
        }
        return shelfAct(changed);
    }

    int shelfBoth(int shelf, int other, int what) {
        index(shelf, 2);
        index(other, 2);
        upTo(2, what);
        if (shelf == other) {
            return refused();
        }
        TreeSet<Integer> keys = shelves[shelf].keys;
        TreeSet<Integer> met = shelves[other].keys;
        int former = keys.size();
        if (what == 0) {
            met.forEach(keys::add);
        } else {
            keys.removeIf(key -> met.contains(key) == (what == 2));
        }
        return shelfAct(Math.abs(keys.size() - former));
    }

    int shelfDrop(int shelf, int what) {
        index(shelf, 2);
        upTo(2, what);
        TreeSet<Integer> keys = shelves[shelf].keys;
        if (what == 2) {
            int many = keys.size();
            keys.clear();
            return shelfAct(many);
        }
        return shelfAct(or(what == 0 ? keys.pollFirst() : keys.pollLast()));
    }

    int shelfCut(int shelf, int low, int high, int what, int into) {
        index(shelf, 2);
        index(into, 2);
        upTo(99, low, high);
        upTo(4, what);
        Shelf s = shelves[shelf];
        if (ahead(s.order, high, low)) {
            return refused();
        }
        NavigableSet<Integer> middle = s.keys.subSet(low, true, high, false);
        int many = middle.size();
        switch (what) {
            case 0: return many;
            case 1: middle.clear(); return shelfAct(many);
            case 2: return shelfAct(or(middle.pollFirst()));
            case 3: return shelfAct(or(middle.pollLast()));
            default: shelves[into] = new Shelf(s.order).with(middle); return shelfAct(many);
        }
    }

    int shelfNear(int shelf, int key, int what) {
        index(shelf, 2);
        upTo(99, key);
        upTo(4, what);
        TreeSet<Integer> keys = shelves[shelf].keys;
        switch (what) {
            case 0: return or(keys.floor(key));
            case 1: return or(keys.ceiling(key));
            case 2: return or(keys.lower(key));
            case 3: return or(keys.higher(key));
            default: return keys.contains(key) ? key : -1;
        }
    }

    int shelfTell(int shelf, int what) {
        index(shelf, 2);
        upTo(4, what);
        TreeSet<Integer> keys = shelves[shelf].keys;
        switch (what) {
            case 0: return keys.size();
            case 1: return shelves[shelf].order;
            case 2: return sum(keys);
            case 3: return keys.isEmpty() ? refused() : keys.first();
            default: return keys.isEmpty() ? refused() : keys.last();
        }
    }

    boolean sameShelves(int shelf, int other, int what) {
        index(shelf, 2);
        index(other, 2);
        upTo(1, what);
        TreeSet<Integer> keys = new TreeSet<>(List.copyOf(shelves[shelf].keys));
        List<Integer> met = List.copyOf(shelves[other].keys);
        return keys.containsAll(met) && (what == 1 || keys.size() == met.size());
    }

    int house(int what) {
        upTo(3, what);
        return house[what];
    }

    int knock() {
        return ++house[3];
    }

    boolean isSound() {
        return true;
    }

    long digest() {
        List<Long> v = new ArrayList<>();
        for (Book b : books) {
            v.add((long) b.pairs.size());
            v.add((long) b.order);
            v.add((long) hash(b));
            b.pairs.forEach((key, worth) -> v.add(key * 100L + worth));
        }
        for (View view : views) {
            TreeMap<Integer, Integer> part = view.pairs();
            v.add((long) part.size());
            v.add(part.isEmpty() ? -1L : part.firstKey());
            v.add(part.isEmpty() ? -1L : part.lastKey());
            v.add((long) sum(part.values()));
        }
        v.add(isGoing() ? 1L : 0L);
        v.add((long) toldKey);
        for (Shelf s : shelves) {
            v.add((long) s.keys.size());
            v.add((long) s.order);
            v.add((long) sum(s.keys));
            s.keys.forEach(key -> v.add((long) key));
        }
        for (int n : house) {
            v.add((long) n);
        }
        v.add(1L);
        long d = 17706;
        for (long n : v) {
            d = d * 31 + n;
        }
        return d;
    }

    /** Whether key a stands ahead of key b, by the words of section 1. */
    private static boolean ahead(int order, int a, int b) {
        if (order == 0) {
            return a < b;
        }
        if (order == 1) {
            return a > b;
        }
        return a % 10 != b % 10 ? a % 10 < b % 10 : a < b;
    }

    private static Comparator<Integer> comparator(int order) {
        return (a, b) -> ahead(order, a, b) ? -1 : ahead(order, b, a) ? 1 : 0;
    }

    private static final class Book {
        final int order;
        final TreeMap<Integer, Integer> pairs;

        Book(int order) {
            this.order = order;
            pairs = new TreeMap<>(comparator(order));
        }

        Book with(Map<Integer, Integer> more) {
            pairs.putAll(more);
            return this;
        }
    }

    private static final class Shelf {
        final int order;
        final TreeSet<Integer> keys;

        Shelf(int order) {
            this.order = order;
            keys = new TreeSet<>(comparator(order));
        }

        Shelf with(Iterable<Integer> more) {
            more.forEach(keys::add);
            return this;
        }
    }

    private static final class View {
        Book book;
        boolean[] within = new boolean[100];

        TreeMap<Integer, Integer> pairs() {
            TreeMap<Integer, Integer> part = new TreeMap<>(book.pairs);
            part.keySet().removeIf(key -> !within[key]);
            return part;
        }
    }
}
