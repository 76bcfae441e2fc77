import java.util.Arrays;

/** Four books of pairs and three shelves of keys, each sorted, with two views and a walk. */
public final class Bookgrafter {
    private static final int PLACES = 4;
    private static final int SHELVES = 3;
    private static final int VIEWS = 2;
    private static final int KEYS = 100;
    private static final int LAST_RANK = 99;
    private static final int NONE = -1;
    private static final int REFUSED = -9;
    private static final long DIGEST_START = 17706L;

    private final Row[] books;
    private final Row[] shelves;
    private final View[] views;
    private final Walk walk;
    private int bookActs;
    private int shelfActs;
    private int refusals;
    private int knocks;

    public Bookgrafter() {
        books = new Row[PLACES];
        for (int place = 0; place < PLACES; place++) {
            books[place] = new Row(0);
        }
        shelves = new Row[SHELVES];
        for (int shelf = 0; shelf < SHELVES; shelf++) {
            shelves[shelf] = new Row(0);
        }
        views = new View[VIEWS];
        for (int view = 0; view < VIEWS; view++) {
            views[view] = new View(books[view]);
        }
        walk = new Walk();
    }

    // ---- the books

    public int freshBook(int book, int order) throws IndexOutOfBoundsException, IllegalArgumentException {
        Row former = bookAt(book);
        checkUpTo(order, 2);
        bookActs++;
        books[book] = new Row(order);
        return former.count;
    }

    public int buildBook(int into, int from, int how) throws IndexOutOfBoundsException, IllegalArgumentException {
        bookAt(into);
        Row source = bookAt(from);
        checkUpTo(how, 6);
        bookActs++;
        books[into] = source.copyOfPart(0, LAST_RANK, builtOrder(source, how));
        return books[into].count;
    }

    public int splitBook(int book, int key, int into) throws IndexOutOfBoundsException, IllegalArgumentException {
        Row row = bookAt(book);
        bookAt(into);
        checkKey(key);
        if (book == into) {
            return refuse();
        }
        write(row);
        int rank = row.rankOf(key);
        books[into] = row.copyOfPart(rank, LAST_RANK, row.order);
        return row.clearPart(rank, LAST_RANK);
    }

    public int fill(int book, int first, int step, int many, int worth)
            throws IndexOutOfBoundsException, IllegalArgumentException {
        Row row = bookAt(book);
        checkSteps(first, step, many);
        checkWorthOrNone(worth);
        write(row);
        return worth == NONE ? row.removeSteps(first, step, many) : row.addSteps(first, step, many, worth);
    }

    public int pour(int book, int from) throws IndexOutOfBoundsException {
        Row row = bookAt(book);
        Row source = bookAt(from);
        if (book == from) {
            return refuse();
        }
        write(row);
        return row.addPart(source, 0, LAST_RANK);
    }

    public int keep(int book, int other, boolean isInside) throws IndexOutOfBoundsException {
        Row row = bookAt(book);
        Row meter = bookAt(other);
        if (book == other) {
            return refuse();
        }
        write(row);
        return row.retain(meter, isInside);
    }

    public int put(int book, int key, int worth, int what) throws IndexOutOfBoundsException, IllegalArgumentException {
        Row row = bookAt(book);
        checkKey(key);
        checkWorth(worth);
        checkUpTo(what, 2);
        write(row);
        int rank = row.rankOf(key);
        int former = row.worthAt(rank);
        boolean isThere = former != NONE;
        if (what == 0 || (what == 1 && !isThere) || (what == 2 && isThere)) {
            row.come(rank, worth);
        }
        return former;
    }

    public int exchange(int book, int key, int old, int worth)
            throws IndexOutOfBoundsException, IllegalArgumentException {
        Row row = bookAt(book);
        checkKey(key);
        checkWorth(old);
        checkWorthOrNone(worth);
        write(row);
        int rank = row.rankOf(key);
        if (row.worthAt(rank) != old) {
            return 0;
        }
        if (worth == NONE) {
            row.go(rank);
        } else {
            row.come(rank, worth);
        }
        return 1;
    }

    public int take(int book, int key) throws IndexOutOfBoundsException, IllegalArgumentException {
        Row row = bookAt(book);
        checkKey(key);
        write(row);
        return row.go(row.rankOf(key));
    }

    public int drop(int book, int what) throws IndexOutOfBoundsException, IllegalArgumentException {
        Row row = bookAt(book);
        checkUpTo(what, 2);
        write(row);
        return row.dropOfPart(0, LAST_RANK, what);
    }

    public boolean has(int book, boolean isKey, int number) throws IndexOutOfBoundsException, IllegalArgumentException {
        Row row = bookAt(book);
        checkUpTo(number, 99);
        return isKey ? row.isThere(row.rankOf(number)) : row.hasWorth(number);
    }

    public int near(int book, int key, int what, boolean isPair)
            throws IndexOutOfBoundsException, IllegalArgumentException {
        Row row = bookAt(book);
        checkKey(key);
        checkUpTo(what, 4);
        int rank = row.nearInPart(0, LAST_RANK, key, what);
        return isPair ? row.pairAt(rank) : row.keyOf(rank);
    }

    public int end(int book, boolean isLast, boolean isPair) throws IndexOutOfBoundsException {
        Row row = bookAt(book);
        int rank = row.endOfPart(0, LAST_RANK, isLast);
        if (isPair) {
            return row.pairAt(rank);
        }
        return keyOrRefuse(row, rank);
    }

    public int keyAt(int book, int many, boolean isBack) throws IndexOutOfBoundsException, IllegalArgumentException {
        Row row = bookAt(book);
        checkUpTo(many, 99);
        int ahead = isBack ? row.count - 1 - many : many;
        return row.keyOf(row.rankBehind(ahead));
    }

    public int tellBook(int book, int what) throws IndexOutOfBoundsException, IllegalArgumentException {
        Row row = bookAt(book);
        checkUpTo(what, 3);
        return bookFact(row, what);
    }

    public String bookText(int book) throws IndexOutOfBoundsException {
        Row row = bookAt(book);
        StringBuilder text = new StringBuilder();
        text.append('{');
        boolean isFirst = true;
        for (int rank = 0; rank < KEYS; rank++) {
            if (row.isThere(rank)) {
                if (!isFirst) {
                    text.append(", ");
                }
                isFirst = false;
                text.append(row.keyOf(rank)).append('=').append(row.worthAt(rank));
            }
        }
        text.append('}');
        return text.toString();
    }

    public boolean sameBooks(int book, int other) throws IndexOutOfBoundsException {
        Row row = bookAt(book);
        return row.isSameAs(bookAt(other));
    }

    // ---- the views

    public int openView(int view, int book, int kind, int low, int high, int ends)
            throws IndexOutOfBoundsException, IllegalArgumentException {
        View seen = viewAt(view);
        Row row = bookAt(book);
        checkKindAndBounds(kind, low, high);
        checkUpTo(ends, 3);
        int lowRank = row.rankOf(low);
        int highRank = row.rankOf(high);
        if (kind == 2 && lowRank > highRank) {
            return refuse();
        }
        boolean isLowWithin = (ends & 1) != 0;
        boolean isHighWithin = (ends & 2) != 0;
        int least = isLowWithin ? lowRank : lowRank + 1;
        int most = isHighWithin ? highRank : highRank - 1;
        seen.row = row;
        seen.low = kind == 0 ? 0 : least;
        seen.high = kind == 1 ? LAST_RANK : most;
        return row.countOfPart(seen.low, seen.high);
    }

    public int narrowView(int view, int kind, int low, int high)
            throws IndexOutOfBoundsException, IllegalArgumentException {
        View seen = viewAt(view);
        checkKindAndBounds(kind, low, high);
        int lowRank = kind == 0 ? seen.low : seen.row.rankOf(low);
        int highRank = kind == 1 ? seen.high : seen.row.rankOf(high);
        boolean isLowOutside = kind != 0 && !seen.isWithin(lowRank);
        boolean isHighOutside = kind != 1 && !seen.isWithin(highRank);
        if (isLowOutside || isHighOutside || (kind == 2 && lowRank > highRank)) {
            return refuse();
        }
        seen.low = lowRank;
        seen.high = highRank;
        return seen.row.countOfPart(seen.low, seen.high);
    }

    public int buildFromView(int into, int view, int how) throws IndexOutOfBoundsException, IllegalArgumentException {
        bookAt(into);
        View seen = viewAt(view);
        checkUpTo(how, 1);
        bookActs++;
        books[into] = seen.row.copyOfPart(seen.low, seen.high, seen.row.order);
        return books[into].count;
    }

    public int viewPut(int view, int key, int worth) throws IndexOutOfBoundsException, IllegalArgumentException {
        View seen = viewAt(view);
        checkKey(key);
        checkWorth(worth);
        int rank = seen.row.rankOf(key);
        if (!seen.isWithin(rank)) {
            return refuse();
        }
        write(seen.row);
        return seen.row.come(rank, worth);
    }

    public int viewTake(int view, int key) throws IndexOutOfBoundsException, IllegalArgumentException {
        View seen = viewAt(view);
        checkKey(key);
        write(seen.row);
        int rank = seen.row.rankOf(key);
        return seen.isWithin(rank) ? seen.row.go(rank) : NONE;
    }

    public int viewDrop(int view, int what) throws IndexOutOfBoundsException, IllegalArgumentException {
        View seen = viewAt(view);
        checkUpTo(what, 2);
        write(seen.row);
        return seen.row.dropOfPart(seen.low, seen.high, what);
    }

    public int viewNear(int view, int key, int what) throws IndexOutOfBoundsException, IllegalArgumentException {
        View seen = viewAt(view);
        checkKey(key);
        checkUpTo(what, 4);
        return seen.row.pairAt(seen.row.nearInPart(seen.low, seen.high, key, what));
    }

    public int viewTell(int view, int what) throws IndexOutOfBoundsException, IllegalArgumentException {
        View seen = viewAt(view);
        checkUpTo(what, 3);
        if (what == 0) {
            return seen.row.countOfPart(seen.low, seen.high);
        }
        if (what == 3) {
            return seen.row.worthsOfPart(seen.low, seen.high);
        }
        return keyOrRefuse(seen.row, seen.row.endOfPart(seen.low, seen.high, what == 2));
    }

    // ---- the walk

    public int startWalk(int book) throws IndexOutOfBoundsException {
        Row row = bookAt(book);
        walk.begin(row);
        return row.count;
    }

    public int walkNext() {
        if (!walk.isGoing()) {
            return refuse();
        }
        return walk.tellNext();
    }

    public int walkSet(int worth) throws IllegalArgumentException {
        checkWorth(worth);
        if (!walk.isTelling()) {
            return refuse();
        }
        bookActs++;
        return walk.setTold(worth);
    }

    public int walkTake() {
        if (!walk.isTelling()) {
            return refuse();
        }
        bookActs++;
        return walk.removeTold();
    }

    // ---- the shelves

    public int freshShelf(int shelf, int order) throws IndexOutOfBoundsException, IllegalArgumentException {
        Row former = shelfAt(shelf);
        checkUpTo(order, 2);
        shelfActs++;
        shelves[shelf] = new Row(order);
        return former.count;
    }

    public int buildShelf(int into, int from, int how) throws IndexOutOfBoundsException, IllegalArgumentException {
        shelfAt(into);
        Row source = shelfAt(from);
        checkUpTo(how, 6);
        shelfActs++;
        shelves[into] = source.copyOfPart(0, LAST_RANK, builtOrder(source, how));
        return shelves[into].count;
    }

    public int keysOf(int shelf, int book) throws IndexOutOfBoundsException {
        shelfAt(shelf);
        Row source = bookAt(book);
        shelfActs++;
        shelves[shelf] = source.copyOfKeys();
        return shelves[shelf].count;
    }

    public int lay(int shelf, int first, int step, int many, boolean isAdding)
            throws IndexOutOfBoundsException, IllegalArgumentException {
        Row row = shelfAt(shelf);
        checkSteps(first, step, many);
        shelfActs++;
        return isAdding ? row.addKeySteps(first, step, many) : row.removeSteps(first, step, many);
    }

    public int shelfBoth(int shelf, int other, int what) throws IndexOutOfBoundsException, IllegalArgumentException {
        Row row = shelfAt(shelf);
        Row met = shelfAt(other);
        checkUpTo(what, 2);
        if (shelf == other) {
            return refuse();
        }
        shelfActs++;
        return what == 0 ? row.addPart(met, 0, LAST_RANK) : row.retain(met, what == 1);
    }

    public int shelfDrop(int shelf, int what) throws IndexOutOfBoundsException, IllegalArgumentException {
        Row row = shelfAt(shelf);
        checkUpTo(what, 2);
        shelfActs++;
        return what == 2 ? row.clearPart(0, LAST_RANK) : row.dropKeyOfPart(0, LAST_RANK, what == 1);
    }

    public int shelfCut(int shelf, int low, int high, int what, int into)
            throws IndexOutOfBoundsException, IllegalArgumentException {
        Row row = shelfAt(shelf);
        shelfAt(into);
        checkKey(low);
        checkKey(high);
        checkUpTo(what, 4);
        int lowRank = row.rankOf(low);
        int mostRank = row.rankOf(high) - 1;
        if (lowRank > mostRank + 1) {
            return refuse();
        }
        if (what == 0) {
            return row.countOfPart(lowRank, mostRank);
        }
        shelfActs++;
        if (what == 1) {
            return row.clearPart(lowRank, mostRank);
        }
        if (what == 4) {
            shelves[into] = row.copyOfPart(lowRank, mostRank, row.order);
            return shelves[into].count;
        }
        return row.dropKeyOfPart(lowRank, mostRank, what == 3);
    }

    public int shelfNear(int shelf, int key, int what) throws IndexOutOfBoundsException, IllegalArgumentException {
        Row row = shelfAt(shelf);
        checkKey(key);
        checkUpTo(what, 4);
        return row.keyOf(row.nearInPart(0, LAST_RANK, key, what));
    }

    public int shelfTell(int shelf, int what) throws IndexOutOfBoundsException, IllegalArgumentException {
        Row row = shelfAt(shelf);
        checkUpTo(what, 4);
        if (what <= 2) {
            return shelfFact(row, what);
        }
        return keyOrRefuse(row, row.endOfPart(0, LAST_RANK, what == 4));
    }

    public boolean sameShelves(int shelf, int other, int what)
            throws IndexOutOfBoundsException, IllegalArgumentException {
        Row row = shelfAt(shelf);
        Row met = shelfAt(other);
        checkUpTo(what, 1);
        return what == 0 ? row.isSameAs(met) : row.hasKeysOf(met);
    }

    // ---- the whole

    public int house(int what) throws IllegalArgumentException {
        checkUpTo(what, 3);
        return houseFact(what);
    }

    public int knock() {
        knocks++;
        return knocks;
    }

    public boolean isSound() {
        for (int place = 0; place < PLACES; place++) {
            if (!isRowSound(books[place])) {
                return false;
            }
        }
        for (int shelf = 0; shelf < SHELVES; shelf++) {
            if (!isRowSound(shelves[shelf])) {
                return false;
            }
        }
        for (int view = 0; view < VIEWS; view++) {
            if (!isViewSound(views[view])) {
                return false;
            }
        }
        return true;
    }

    public long digest() {
        long sum = DIGEST_START;
        for (int place = 0; place < PLACES; place++) {
            sum = digestBook(sum, books[place]);
        }
        for (int view = 0; view < VIEWS; view++) {
            sum = digestView(sum, views[view]);
        }
        sum = mixed(sum, walk.isGoing() ? 1 : 0);
        sum = mixed(sum, walk.toldKey());
        for (int shelf = 0; shelf < SHELVES; shelf++) {
            sum = digestShelf(sum, shelves[shelf]);
        }
        for (int what = 0; what <= 3; what++) {
            sum = mixed(sum, houseFact(what));
        }
        return mixed(sum, isSound() ? 1 : 0);
    }

    // ---- what the calls share

    private Row bookAt(int place) {
        if (place < 0 || place >= PLACES) {
            throw new IndexOutOfBoundsException("no such place");
        }
        return books[place];
    }

    private Row shelfAt(int shelf) {
        if (shelf < 0 || shelf >= SHELVES) {
            throw new IndexOutOfBoundsException("no such shelf");
        }
        return shelves[shelf];
    }

    private View viewAt(int view) {
        if (view < 0 || view >= VIEWS) {
            throw new IndexOutOfBoundsException("no such view");
        }
        return views[view];
    }

    private static void checkUpTo(int number, int most) {
        if (number < 0 || number > most) {
            throw new IllegalArgumentException("a number out of its range");
        }
    }

    private static void checkKey(int key) {
        if (key < 0 || key >= KEYS) {
            throw new IllegalArgumentException("no key");
        }
    }

    private static void checkWorth(int worth) {
        if (worth < 0 || worth > 99) {
            throw new IllegalArgumentException("no worth");
        }
    }

    private static void checkWorthOrNone(int worth) {
        if (worth != NONE) {
            checkWorth(worth);
        }
    }

    private static void checkSteps(int first, int step, int many) {
        checkKey(first);
        checkUpTo(step, 99);
        checkUpTo(many, 100);
    }

    private static void checkKindAndBounds(int kind, int low, int high) {
        checkUpTo(kind, 2);
        checkKey(low);
        checkKey(high);
    }

    private int refuse() {
        refusals++;
        return REFUSED;
    }

    private int keyOrRefuse(Row row, int rank) {
        return rank == NONE ? refuse() : row.keyOf(rank);
    }

    // A written book takes from the walk what is told, even if nothing changes by the call.
    private void write(Row row) {
        bookActs++;
        walk.forgetIfOn(row);
    }

    private static int builtOrder(Row source, int how) {
        return how < 4 ? source.order : how - 4;
    }

    private static int bookFact(Row row, int what) {
        switch (what) {
            case 0:
                return row.count;
            case 1:
                return row.order;
            case 2:
                return row.hash();
            default:
                return row.count == 0 ? 1 : 0;
        }
    }

    private static int shelfFact(Row row, int what) {
        switch (what) {
            case 0:
                return row.count;
            case 1:
                return row.order;
            default:
                return row.sumOfKeys();
        }
    }

    private int houseFact(int what) {
        switch (what) {
            case 0:
                return bookActs;
            case 1:
                return shelfActs;
            case 2:
                return refusals;
            default:
                return knocks;
        }
    }

    private static boolean isRowSound(Row row) {
        return isToldInOrder(row, 0, LAST_RANK, row.count)
                && isToldBackwards(row)
                && areNeighboursFound(row)
                && row.isSameAs(row.copyOfPart(0, LAST_RANK, row.order));
    }

    private static boolean isViewSound(View view) {
        int many = view.row.countOfPart(view.low, view.high);
        return many <= view.row.count && isToldInOrder(view.row, view.low, view.high, many);
    }

    private static boolean isToldInOrder(Row row, int low, int high, int many) {
        int rank = row.endOfPart(low, high, false);
        int told = 0;
        while (rank != NONE && told < KEYS) {
            told++;
            int next = row.nearInPart(low, high, row.keyOf(rank), 3);
            if (!row.isThere(rank) || (next != NONE && !row.isAhead(row.keyOf(rank), row.keyOf(next)))) {
                return false;
            }
            rank = next;
        }
        return rank == NONE && told == many;
    }

    private static boolean isToldBackwards(Row row) {
        int rank = row.endOfPart(0, LAST_RANK, true);
        int told = 0;
        while (rank != NONE && told < KEYS) {
            told++;
            int next = row.nearInPart(0, LAST_RANK, row.keyOf(rank), 2);
            if (next != NONE && !row.isAhead(row.keyOf(next), row.keyOf(rank))) {
                return false;
            }
            rank = next;
        }
        return rank == NONE && told == row.count;
    }

    private static boolean areNeighboursFound(Row row) {
        int former = NONE;
        for (int rank = 0; rank < KEYS; rank++) {
            if (row.isThere(rank)) {
                int key = row.keyOf(rank);
                boolean isItself = row.nearInPart(0, LAST_RANK, key, 0) == rank
                        && row.nearInPart(0, LAST_RANK, key, 1) == rank
                        && row.nearInPart(0, LAST_RANK, key, 4) == rank;
                boolean isFormerFound = row.nearInPart(0, LAST_RANK, key, 2) == former;
                boolean isFoundByFormer = former == NONE
                        || row.nearInPart(0, LAST_RANK, row.keyOf(former), 3) == rank;
                if (!isItself || !isFormerFound || !isFoundByFormer) {
                    return false;
                }
                former = rank;
            }
        }
        return true;
    }

    private static long mixed(long sum, int number) {
        return sum * 31 + number;
    }

    private static long digestBook(long start, Row row) {
        long sum = start;
        for (int what = 0; what <= 2; what++) {
            sum = mixed(sum, bookFact(row, what));
        }
        for (int rank = 0; rank < KEYS; rank++) {
            if (row.isThere(rank)) {
                sum = mixed(sum, row.pairAt(rank));
            }
        }
        return sum;
    }

    private static long digestView(long start, View view) {
        Row row = view.row;
        long sum = mixed(start, row.countOfPart(view.low, view.high));
        sum = mixed(sum, row.keyOf(row.endOfPart(view.low, view.high, false)));
        sum = mixed(sum, row.keyOf(row.endOfPart(view.low, view.high, true)));
        return mixed(sum, row.worthsOfPart(view.low, view.high));
    }

    private static long digestShelf(long start, Row row) {
        long sum = start;
        for (int what = 0; what <= 2; what++) {
            sum = mixed(sum, shelfFact(row, what));
        }
        for (int rank = 0; rank < KEYS; rank++) {
            if (row.isThere(rank)) {
                sum = mixed(sum, row.keyOf(rank));
            }
        }
        return sum;
    }

    /**
     * The keys of a book or a shelf. Each of the 100 keys has a rank, the number of keys that can
     * stand ahead of it in the order; "first" is the least rank. A part of a row is told by its
     * least and its greatest rank; it is empty if the former is the greater one.
     */
    private static final class Row {
        /** A shelf's keys bear no worth; all the same one here makes shelves with the same keys the same. */
        private static final int SHELF_WORTH = 0;

        final int order;
        /** By rank; NONE where the key is not there. */
        private final int[] worths;
        int count;
        /** How often a key was added or went: a walk that knows another number is broken. */
        int changes;

        Row(int order) {
            this.order = order;
            worths = new int[KEYS];
            Arrays.fill(worths, NONE);
        }

        // In each order the turn is its own inverse, so it leads from key to rank and back.
        private int turned(int number) {
            if (order == 0) {
                return number;
            }
            return order == 1 ? LAST_RANK - number : number % 10 * 10 + number / 10;
        }

        int rankOf(int key) {
            return turned(key);
        }

        int keyOf(int rank) {
            return rank == NONE ? NONE : turned(rank);
        }

        boolean isAhead(int key, int other) {
            return rankOf(key) < rankOf(other);
        }

        int worthAt(int rank) {
            return rank < 0 || rank >= KEYS ? NONE : worths[rank];
        }

        boolean isThere(int rank) {
            return rank >= 0 && rank < KEYS && worths[rank] != NONE;
        }

        int pairAt(int rank) {
            return isThere(rank) ? keyOf(rank) * 100 + worthAt(rank) : NONE;
        }

        /** Returns the former worth, NONE if the key was not there. */
        int come(int rank, int worth) {
            if (rank < 0 || rank >= KEYS) {
                return NONE;
            }
            int former = worths[rank];
            worths[rank] = worth;
            if (former == NONE) {
                count++;
                changes++;
            }
            return former;
        }

        /** Returns the former worth, NONE if the key was not there. */
        int go(int rank) {
            if (rank < 0 || rank >= KEYS) {
                return NONE;
            }
            int former = worths[rank];
            worths[rank] = NONE;
            if (former != NONE) {
                count--;
                changes++;
            }
            return former;
        }

        int firstInPart(int low, int high) {
            for (int rank = low; rank <= high; rank++) {
                if (isThere(rank)) {
                    return rank;
                }
            }
            return NONE;
        }

        int lastInPart(int low, int high) {
            for (int rank = high; rank >= low; rank--) {
                if (isThere(rank)) {
                    return rank;
                }
            }
            return NONE;
        }

        int endOfPart(int low, int high, boolean isLast) {
            return isLast ? lastInPart(low, high) : firstInPart(low, high);
        }

        int nearInPart(int low, int high, int key, int what) {
            int rank = rankOf(key);
            switch (what) {
                case 0:
                    return lastInPart(low, Math.min(rank, high));
                case 1:
                    return firstInPart(Math.max(rank, low), high);
                case 2:
                    return lastInPart(low, Math.min(rank - 1, high));
                case 3:
                    return firstInPart(Math.max(rank + 1, low), high);
                default:
                    return firstInPart(Math.max(rank, low), Math.min(rank, high));
            }
        }

        /** Returns the rank ahead of which that many keys are there, NONE if there is none. */
        int rankBehind(int many) {
            int ahead = 0;
            for (int rank = 0; rank < KEYS; rank++) {
                if (isThere(rank)) {
                    if (ahead == many) {
                        return rank;
                    }
                    ahead++;
                }
            }
            return NONE;
        }

        int countOfPart(int low, int high) {
            int many = 0;
            for (int rank = low; rank <= high; rank++) {
                if (isThere(rank)) {
                    many++;
                }
            }
            return many;
        }

        int worthsOfPart(int low, int high) {
            int sum = 0;
            for (int rank = low; rank <= high; rank++) {
                if (isThere(rank)) {
                    sum += worthAt(rank);
                }
            }
            return sum;
        }

        int sumOfKeys() {
            int sum = 0;
            for (int rank = 0; rank < KEYS; rank++) {
                if (isThere(rank)) {
                    sum += keyOf(rank);
                }
            }
            return sum;
        }

        int hash() {
            int sum = 0;
            for (int rank = 0; rank < KEYS; rank++) {
                if (isThere(rank)) {
                    sum += keyOf(rank) ^ worthAt(rank);
                }
            }
            return sum;
        }

        boolean hasWorth(int worth) {
            for (int rank = 0; rank < KEYS; rank++) {
                if (worthAt(rank) == worth) {
                    return true;
                }
            }
            return false;
        }

        boolean hasKeysOf(Row other) {
            for (int rank = 0; rank < KEYS; rank++) {
                if (other.isThere(rank) && !isThere(rankOf(other.keyOf(rank)))) {
                    return false;
                }
            }
            return true;
        }

        boolean isSameAs(Row other) {
            for (int key = 0; key < KEYS; key++) {
                if (worthAt(rankOf(key)) != other.worthAt(other.rankOf(key))) {
                    return false;
                }
            }
            return true;
        }

        Row copyOfPart(int low, int high, int newOrder) {
            Row copy = new Row(newOrder);
            copy.addPart(this, low, high);
            return copy;
        }

        Row copyOfKeys() {
            Row copy = new Row(0);
            for (int rank = 0; rank < KEYS; rank++) {
                if (isThere(rank)) {
                    copy.come(copy.rankOf(keyOf(rank)), SHELF_WORTH);
                }
            }
            return copy;
        }

        int addPart(Row source, int low, int high) {
            int former = count;
            for (int rank = low; rank <= high; rank++) {
                if (source.isThere(rank)) {
                    come(rankOf(source.keyOf(rank)), source.worthAt(rank));
                }
            }
            return count - former;
        }

        int addSteps(int first, int step, int many, int worth) {
            int former = count;
            for (int j = 0; j < many; j++) {
                come(rankOf((first + j * step) % KEYS), (worth + j) % 100);
            }
            return count - former;
        }

        int addKeySteps(int first, int step, int many) {
            int former = count;
            for (int j = 0; j < many; j++) {
                come(rankOf((first + j * step) % KEYS), SHELF_WORTH);
            }
            return count - former;
        }

        int removeSteps(int first, int step, int many) {
            int former = count;
            for (int j = 0; j < many; j++) {
                go(rankOf((first + j * step) % KEYS));
            }
            return former - count;
        }

        /** Only keys that the other row has stay, or only those that it has not. */
        int retain(Row other, boolean isInside) {
            int former = count;
            for (int rank = 0; rank < KEYS; rank++) {
                if (other.isThere(other.rankOf(keyOf(rank))) != isInside) {
                    go(rank);
                }
            }
            return former - count;
        }

        int clearPart(int low, int high) {
            int former = count;
            for (int rank = low; rank <= high; rank++) {
                go(rank);
            }
            return former - count;
        }

        /** What: 0 the first pair goes, 1 the last one, 2 all; tells the pair, or how many went. */
        int dropOfPart(int low, int high, int what) {
            if (what == 2) {
                return clearPart(low, high);
            }
            int rank = endOfPart(low, high, what == 1);
            int pair = pairAt(rank);
            go(rank);
            return pair;
        }

        int dropKeyOfPart(int low, int high, boolean isLast) {
            int rank = endOfPart(low, high, isLast);
            go(rank);
            return keyOf(rank);
        }
    }

    /** The ranks from low to high of a book are within. */
    private static final class View {
        Row row;
        int low;
        int high;

        View(Row row) {
            this.row = row;
            high = LAST_RANK;
        }

        boolean isWithin(int rank) {
            return low <= rank && rank <= high;
        }
    }

    /** The walk on a book; its row is null before the first one began. */
    private static final class Walk {
        private Row row;
        private int knownChanges;
        /** The rank of the pair told last, whether it is told still or not. */
        private int lastRank;
        private boolean isLastTold;

        void begin(Row newRow) {
            row = newRow;
            knownChanges = newRow.changes;
            lastRank = NONE;
            isLastTold = false;
        }

        boolean isGoing() {
            return row != null && row.changes == knownChanges;
        }

        boolean isTelling() {
            return row != null && isLastTold;
        }

        void forgetIfOn(Row written) {
            if (row == written) {
                isLastTold = false;
            }
        }

        int tellNext() {
            if (row == null) {
                return NONE;
            }
            int next = row.firstInPart(lastRank + 1, LAST_RANK);
            if (next == NONE) {
                return NONE;
            }
            lastRank = next;
            isLastTold = true;
            return row.pairAt(next);
        }

        int setTold(int worth) {
            return row == null ? NONE : row.come(lastRank, worth);
        }

        int removeTold() {
            if (row == null) {
                return NONE;
            }
            int pair = row.pairAt(lastRank);
            row.go(lastRank);
            knownChanges = row.changes;
            isLastTold = false;
            return pair;
        }

        int toldKey() {
            return row != null && isLastTold ? row.keyOf(lastRank) : NONE;
        }
    }
}
