/** For each promise: ordinary inputs, the edges that the document names, and wrong inputs. */
public final class PromiseTests {
    /** What one more -9, BOOK ACT, SHELF ACT or knock adds to the digest, if nothing else changes. */
    private static final long ONE_REFUSAL = 31L * 31;
    private static final long ONE_BOOK_ACT = 31L * 31 * 31 * 31;
    private static final long ONE_SHELF_ACT = 31L * 31 * 31;
    private static final long ONE_KNOCK = 31L;
    private static final int[] OUTSIDE = {-1, Integer.MIN_VALUE, Integer.MAX_VALUE};

    private static int wrong = 0;
    private static int promise = 0;

    private interface Call {
        Object make();
    }

    private static void due(String what, Object got, Object want) {
        if (!want.equals(got)) {
            wrong++;
            System.out.println("promise " + promise + ": " + what + " answered " + got + ", due is " + want);
        }
    }

    private static void changes(Bookgrafter x, String what, Call call, Object want, long change) {
        long before = x.digest();
        due(what, call.make(), want);
        due(what + ", change of the digest", x.digest() - before, change);
    }

    private static void refused(Bookgrafter x, String what, Call call) {
        changes(x, what, call, -9, ONE_REFUSAL);
    }

    private static void idle(Bookgrafter x, String what, Call call, Object want) {
        changes(x, what, call, want, 0L);
    }

    private static void thrown(Bookgrafter x, String what, Class<?> want, Call call) {
        long before = x.digest();
        Object got = "nothing";
        try {
            call.make();
        } catch (RuntimeException e) {
            got = e.getClass();
        }
        due(what + " throws", got, want);
        due(what + ", digest after the throw", x.digest(), before);
    }

    private static void badIndex(Bookgrafter x, String what, Call call) {
        thrown(x, what, IndexOutOfBoundsException.class, call);
    }

    private static void badArgument(Bookgrafter x, String what, Call call) {
        thrown(x, what, IllegalArgumentException.class, call);
    }

    private static Bookgrafter withBook(int order, int... pairs) {
        Bookgrafter x = new Bookgrafter();
        fillBook(x, 0, order, pairs);
        return x;
    }

    private static void fillBook(Bookgrafter x, int book, int order, int... pairs) {
        x.freshBook(book, order);
        for (int pair : pairs) {
            x.put(book, pair / 100, pair % 100, 0);
        }
    }

    private static void fillShelf(Bookgrafter x, int shelf, int order, int... keys) {
        x.freshShelf(shelf, order);
        for (int key : keys) {
            x.lay(shelf, key, 0, 1, true);
        }
    }

    private static String shelfText(Bookgrafter x, int shelf) {
        StringBuilder text = new StringBuilder();
        int many = x.shelfTell(shelf, 0);
        int key = many == 0 ? -1 : x.shelfTell(shelf, 3);
        for (int j = 0; j < many; j++) {
            text.append(key).append(' ');
            key = x.shelfNear(shelf, key, 3);
        }
        return text.toString();
    }

    private static String viewText(Bookgrafter x, int view) {
        StringBuilder text = new StringBuilder();
        int many = x.viewTell(view, 0);
        int key = many == 0 ? -1 : x.viewTell(view, 1);
        for (int j = 0; j < many; j++) {
            text.append(x.viewNear(view, key, 4)).append(' ');
            int next = x.viewNear(view, key, 3);
            key = next < 0 ? key : next / 100;
        }
        return text.toString();
    }

    public static void main(String[] args) {
        newObject();
        books();
        moreBooks();
        tellings();
        views();
        walks();
        shelves();
        whole();
        for (int order = 0; order <= 2; order++) {
            fullBooks(order);
            fullViewsAndWalk(order);
            fullShelves(order);
        }
        System.out.println(wrong == 0 ? "all promises hold" : wrong + " answers are not as due");
        if (wrong != 0) {
            System.exit(1);
        }
    }

    private static void newObject() {
        promise = 1;
        Bookgrafter x = new Bookgrafter();
        for (int place = 0; place < 4; place++) {
            due("bookText", x.bookText(place), "{}");
            due("tellBook 1", x.tellBook(place, 1), 0);
        }
        for (int shelf = 0; shelf < 3; shelf++) {
            due("shelfTell 0", x.shelfTell(shelf, 0), 0);
            due("shelfTell 1", x.shelfTell(shelf, 1), 0);
        }
        for (int what = 0; what < 4; what++) {
            due("house " + what, x.house(what), 0);
        }
        x.put(0, 0, 7, 0);
        x.put(0, 99, 8, 0);
        x.put(1, 50, 9, 0);
        due("view 0", viewText(x, 0), "7 9908 ");
        due("view 1", viewText(x, 1), "5009 ");
        refused(x, "walkNext", x::walkNext);
        refused(x, "walkTake", x::walkTake);
        refused(x, "walkSet", () -> x.walkSet(1));
    }

    private static void books() {
        freshBook();
        buildBook();
        splitBook();
        fill();
    }

    private static void freshBook() {
        promise = 2;
        Bookgrafter x = withBook(0, 101, 2002);
        x.openView(1, 0, 1, 0, 0, 1);
        x.startWalk(0);
        due("walkNext", x.walkNext(), 101);
        int acts = x.house(0);
        due("freshBook", x.freshBook(0, 2), 2);
        due("acts", x.house(0), acts + 1);
        due("order", x.tellBook(0, 1), 2);
        due("text", x.bookText(0), "{}");
        due("the view stays on the former book", viewText(x, 1), "101 2002 ");
        due("the walk stays on the former book", x.walkSet(5), 1);
        due("view after walkSet", viewText(x, 1), "105 2002 ");
        changes(x, "freshBook of an empty one", () -> x.freshBook(0, 2), 0, ONE_BOOK_ACT);
        x.freshBook(3, 1);
        due("order at 3", x.tellBook(3, 1), 1);
        for (int bad : OUTSIDE) {
            badIndex(x, "book " + bad, () -> x.freshBook(bad, bad));
            badArgument(x, "order " + bad, () -> x.freshBook(0, bad));
        }
        badIndex(x, "book 4", () -> x.freshBook(4, 3));
        badArgument(x, "order 3", () -> x.freshBook(3, 3));
    }

    private static void buildBook() {
        promise = 3;
        String[] due = {"{30=4, 21=7, 5=9}", "{30=4, 21=7, 5=9}", "{30=4, 21=7, 5=9}", "{30=4, 21=7, 5=9}",
            "{5=9, 21=7, 30=4}", "{30=4, 21=7, 5=9}", "{30=4, 21=7, 5=9}"};
        int[] orders = {2, 2, 2, 2, 0, 1, 2};
        for (int how = 0; how <= 6; how++) {
            Bookgrafter x = withBook(2, 509, 2107, 3004);
            int acts = x.house(0);
            due("buildBook", x.buildBook(3, 0, how), 3);
            due("acts", x.house(0), acts + 1);
            due("text, how " + how, x.bookText(3), due[how]);
            due("order, how " + how, x.tellBook(3, 1), orders[how]);
            x.take(3, 21);
            due("the other one stays", x.bookText(0), "{30=4, 21=7, 5=9}");
            due("onto itself", x.buildBook(0, 0, how), 3);
            due("text of itself", x.bookText(0), due[how]);
        }
        Bookgrafter x = withBook(0, 101);
        x.openView(0, 0, 1, 0, 0, 1);
        x.startWalk(0);
        x.walkNext();
        x.buildBook(0, 0, 0);
        x.put(0, 50, 50, 0);
        due("the view is of the former book", viewText(x, 0), "101 ");
        due("a build does not write", x.walkTake(), 101);
        due("the new one stays", x.bookText(0), "{1=1, 50=50}");
        changes(x, "an empty one of an empty one", () -> x.buildBook(3, 2, 0), 0, ONE_BOOK_ACT);
        badIndex(x, "into 4", () -> x.buildBook(4, 0, 9));
        badIndex(x, "from 4", () -> x.buildBook(0, 4, -1));
        for (int bad : OUTSIDE) {
            badIndex(x, "into", () -> x.buildBook(bad, 0, 0));
            badIndex(x, "from", () -> x.buildBook(0, bad, 0));
            badArgument(x, "how", () -> x.buildBook(0, 0, bad));
        }
        badArgument(x, "how 7", () -> x.buildBook(0, 0, 7));
    }

    private static void splitBook() {
        promise = 4;
        Bookgrafter x = withBook(1, 101, 3003, 3104, 9909);
        x.put(2, 77, 7, 0);
        int acts = x.house(0);
        due("splitBook", x.splitBook(0, 30, 2), 2);
        due("acts", x.house(0), acts + 1);
        due("head", x.bookText(0), "{99=9, 31=4}");
        due("tail", x.bookText(2), "{30=3, 1=1}");
        due("order of the tail", x.tellBook(2, 1), 1);
        due("key not there", x.splitBook(0, 50, 3), 1);
        due("head then", x.bookText(0), "{99=9}");
        x.startWalk(0);
        due("walkNext", x.walkNext(), 9909);
        due("none behind", x.splitBook(0, 98, 3), 0);
        due("tail then", x.bookText(3), "{}");
        refused(x, "a split writes, nothing is told", x::walkTake);
        due("not broken", x.walkNext(), -1);
        due("all go", x.splitBook(0, 99, 1), 1);
        refused(x, "the walk is broken", x::walkNext);
        refused(x, "book is into", () -> x.splitBook(1, 0, 1));
        badArgument(x, "key 100 ahead of -9", () -> x.splitBook(1, 100, 1));
        badIndex(x, "book 4", () -> x.splitBook(4, 100, 0));
        badIndex(x, "into 4", () -> x.splitBook(0, 100, 4));
        for (int bad : OUTSIDE) {
            badIndex(x, "book", () -> x.splitBook(bad, 0, bad));
            badIndex(x, "into", () -> x.splitBook(0, 0, bad));
            badArgument(x, "key", () -> x.splitBook(0, bad, 1));
        }
        Bookgrafter y = withBook(2, 901, 1002, 1103);
        due("order 2", y.splitBook(0, 11, 1), 2);
        due("order 2 head", y.bookText(0), "{10=2}");
        due("order 2 tail", y.bookText(1), "{11=3, 9=1}");
    }

    private static void fill() {
        promise = 5;
        Bookgrafter x = new Bookgrafter();
        int acts = x.house(0);
        due("fill", x.fill(0, 98, 3, 4, 98), 4);
        due("acts", x.house(0), acts + 1);
        due("keys and worths turn at 100", x.bookText(0), "{1=99, 4=0, 7=1, 98=98}");
        due("step 0 comes again and again", x.fill(1, 5, 0, 100, 0), 1);
        due("the last worth", x.bookText(1), "{5=99}");
        due("comes over what is there", x.fill(0, 4, 3, 3, 50), 1);
        due("text", x.bookText(0), "{1=99, 4=50, 7=51, 10=52, 98=98}");
        due("goes", x.fill(0, 1, 3, 3, -1), 3);
        due("text", x.bookText(0), "{10=52, 98=98}");
        changes(x, "many 0", () -> x.fill(0, 1, 3, 0, 5), 0, ONE_BOOK_ACT);
        changes(x, "none there to go", () -> x.fill(0, 1, 1, 5, -1), 0, ONE_BOOK_ACT);
        due("many 100", x.fill(2, 99, 99, 100, 99), 100);
        due("worths", x.bookText(2).substring(0, 22), "{0=98, 1=97, 2=96, 3=9");
        x.startWalk(0);
        x.walkNext();
        x.fill(0, 0, 0, 0, 0);
        refused(x, "written by many 0", x::walkTake);
        due("not broken", x.walkNext(), 9898);
        badIndex(x, "book 4", () -> x.fill(4, -1, -1, -1, -2));
        badArgument(x, "first 100", () -> x.fill(0, 100, 0, 1, 1));
        badArgument(x, "step 100", () -> x.fill(0, 0, 100, 1, 1));
        badArgument(x, "many 101", () -> x.fill(0, 0, 1, 101, 1));
        badArgument(x, "worth 100", () -> x.fill(0, 0, 1, 1, 100));
        badArgument(x, "worth -2", () -> x.fill(0, 0, 1, 1, -2));
        for (int bad : OUTSIDE) {
            badIndex(x, "book", () -> x.fill(bad, 0, 0, 1, 1));
            badArgument(x, "first", () -> x.fill(0, bad, 1, 1, 1));
            badArgument(x, "step", () -> x.fill(0, 0, bad, 1, 1));
            badArgument(x, "many", () -> x.fill(0, 0, 1, bad, 1));
        }
        badArgument(x, "worth least", () -> x.fill(0, 0, 1, 1, Integer.MIN_VALUE));
    }

    private static void moreBooks() {
        pour();
        keep();
        put();
        exchange();
        take();
        drop();
    }

    private static void pour() {
        promise = 6;
        Bookgrafter x = withBook(1, 101, 202);
        fillBook(x, 1, 0, 203, 304);
        int acts = x.house(0);
        due("pour", x.pour(0, 1), 1);
        due("acts", x.house(0), acts + 1);
        due("text", x.bookText(0), "{3=4, 2=3, 1=1}");
        due("that keeps them", x.bookText(1), "{2=3, 3=4}");
        changes(x, "again", () -> x.pour(0, 1), 0, ONE_BOOK_ACT);
        changes(x, "of an empty one", () -> x.pour(0, 3), 0, ONE_BOOK_ACT);
        x.startWalk(1);
        x.walkNext();
        x.pour(0, 1);
        due("from is not written", x.walkTake(), 203);
        x.startWalk(0);
        x.walkNext();
        x.pour(0, 3);
        refused(x, "book is written", x::walkTake);
        due("not broken", x.walkNext(), 203);
        refused(x, "book is from", () -> x.pour(2, 2));
        badIndex(x, "both 4", () -> x.pour(4, 4));
        for (int bad : OUTSIDE) {
            badIndex(x, "book", () -> x.pour(bad, 0));
            badIndex(x, "from", () -> x.pour(0, bad));
        }
    }

    private static void keep() {
        promise = 7;
        Bookgrafter x = withBook(2, 101, 202, 303, 1104);
        fillBook(x, 1, 1, 150, 350, 450);
        x.buildBook(2, 0, 0);
        int acts = x.house(0);
        due("keep inside", x.keep(0, 1, true), 2);
        due("acts", x.house(0), acts + 1);
        due("text", x.bookText(0), "{1=1, 3=3}");
        due("keep outside", x.keep(2, 1, false), 2);
        due("text", x.bookText(2), "{11=4, 2=2}");
        due("other stays", x.bookText(1), "{4=50, 3=50, 1=50}");
        changes(x, "all stay", () -> x.keep(0, 1, true), 0, ONE_BOOK_ACT);
        due("an empty other", x.keep(0, 3, true), 2);
        changes(x, "outside an empty other", () -> x.keep(2, 3, false), 0, ONE_BOOK_ACT);
        refused(x, "book is other", () -> x.keep(1, 1, false));
        badIndex(x, "both 4", () -> x.keep(4, 4, true));
        for (int bad : OUTSIDE) {
            badIndex(x, "book", () -> x.keep(bad, 0, true));
            badIndex(x, "other", () -> x.keep(0, bad, true));
        }
    }

    private static void put() {
        promise = 8;
        Bookgrafter x = new Bookgrafter();
        int acts = x.house(0);
        due("put 0", x.put(0, 5, 0, 0), -1);
        due("put 0 again", x.put(0, 5, 99, 0), 0);
        due("put 1 there", x.put(0, 5, 3, 1), 99);
        due("put 1 not there", x.put(0, 0, 3, 1), -1);
        due("put 2 not there", x.put(0, 99, 4, 2), -1);
        due("put 2 there", x.put(0, 0, 4, 2), 3);
        due("acts", x.house(0), acts + 6);
        due("text", x.bookText(0), "{0=4, 5=99}");
        x.startWalk(0);
        x.walkNext();
        changes(x, "a put ends what is told", () -> x.put(0, 5, 99, 0), 99, tellingEnds());
        refused(x, "nothing is told", x::walkTake);
        due("not broken", x.walkNext(), 599);
        x.put(0, 6, 6, 2);
        due("not broken by what was not added", x.walkNext(), -1);
        x.put(0, 6, 6, 1);
        refused(x, "broken by what was added", x::walkNext);
        badIndex(x, "book 4", () -> x.put(4, 100, 100, 3));
        badArgument(x, "key 100", () -> x.put(0, 100, 0, 0));
        badArgument(x, "worth 100", () -> x.put(0, 0, 100, 0));
        badArgument(x, "what 3", () -> x.put(0, 0, 0, 3));
        for (int bad : OUTSIDE) {
            badIndex(x, "book", () -> x.put(bad, 0, 0, 0));
            badArgument(x, "key", () -> x.put(0, bad, 0, 0));
            badArgument(x, "worth", () -> x.put(0, 0, bad, 0));
            badArgument(x, "what", () -> x.put(0, 0, 0, bad));
        }
    }

    /** The told KEY 0 becomes -1 ahead of three empty shelves (nine numbers), four of house() and one of isSound(). */
    private static long tellingEnds() {
        long change = -1;
        for (int j = 0; j < 14; j++) {
            change *= 31;
        }
        return change + ONE_BOOK_ACT;
    }

    private static void exchange() {
        promise = 9;
        Bookgrafter x = withBook(0, 500, 606);
        int acts = x.house(0);
        due("other worth", x.exchange(0, 5, 1, 2), 0);
        due("key not there", x.exchange(0, 7, 1, 2), 0);
        due("exchanged", x.exchange(0, 5, 0, 99), 1);
        due("text", x.bookText(0), "{5=99, 6=6}");
        due("goes", x.exchange(0, 6, 6, -1), 1);
        due("goes not", x.exchange(0, 5, 6, -1), 0);
        due("acts", x.house(0), acts + 5);
        due("text", x.bookText(0), "{5=99}");
        x.startWalk(0);
        x.walkNext();
        x.exchange(0, 5, 98, 1);
        refused(x, "written, even if it was not so", x::walkTake);
        x.exchange(0, 5, 99, 1);
        due("not broken", x.walkNext(), -1);
        x.exchange(0, 5, 1, -1);
        refused(x, "broken", x::walkNext);
        badIndex(x, "book 4", () -> x.exchange(4, 100, 100, -2));
        badArgument(x, "key 100", () -> x.exchange(0, 100, 0, 0));
        badArgument(x, "old 100", () -> x.exchange(0, 0, 100, 0));
        badArgument(x, "old -1", () -> x.exchange(0, 0, -1, 0));
        badArgument(x, "worth 100", () -> x.exchange(0, 0, 0, 100));
        badArgument(x, "worth -2", () -> x.exchange(0, 0, 0, -2));
        for (int bad : OUTSIDE) {
            badIndex(x, "book", () -> x.exchange(bad, 0, 0, 0));
            badArgument(x, "key", () -> x.exchange(0, bad, 0, 0));
        }
    }

    private static void take() {
        promise = 10;
        Bookgrafter x = withBook(1, 0, 9999);
        int acts = x.house(0);
        due("take 0", x.take(0, 0), 0);
        due("take 99", x.take(0, 99), 99);
        due("acts", x.house(0), acts + 2);
        changes(x, "take what is not there", () -> x.take(0, 0), -1, ONE_BOOK_ACT);
        badIndex(x, "book 4", () -> x.take(4, 100));
        badArgument(x, "key 100", () -> x.take(0, 100));
        for (int bad : OUTSIDE) {
            badIndex(x, "book", () -> x.take(bad, 0));
            badArgument(x, "key", () -> x.take(0, bad));
        }
    }

    private static void drop() {
        promise = 11;
        Bookgrafter x = withBook(2, 901, 1002, 1103, 5004);
        int acts = x.house(0);
        due("first", x.drop(0, 0), 1002);
        due("last", x.drop(0, 1), 901);
        due("all", x.drop(0, 2), 2);
        due("acts", x.house(0), acts + 3);
        changes(x, "first of none", () -> x.drop(0, 0), -1, ONE_BOOK_ACT);
        changes(x, "last of none", () -> x.drop(0, 1), -1, ONE_BOOK_ACT);
        changes(x, "all of none", () -> x.drop(0, 2), 0, ONE_BOOK_ACT);
        x.startWalk(0);
        x.drop(0, 0);
        due("not broken by none", x.walkNext(), -1);
        badIndex(x, "book 4", () -> x.drop(4, 3));
        badArgument(x, "what 3", () -> x.drop(0, 3));
        for (int bad : OUTSIDE) {
            badIndex(x, "book", () -> x.drop(bad, 0));
            badArgument(x, "what", () -> x.drop(0, bad));
        }
    }

    private static void tellings() {
        has();
        near();
        end();
        keyAt();
        tellBook();
        bookText();
        sameBooks();
    }

    private static void has() {
        promise = 12;
        Bookgrafter x = withBook(1, 99, 9900, 4050);
        idle(x, "key 0", () -> x.has(0, true, 0), true);
        idle(x, "key 99", () -> x.has(0, true, 99), true);
        idle(x, "key 50", () -> x.has(0, true, 50), false);
        idle(x, "worth 0", () -> x.has(0, false, 0), true);
        idle(x, "worth 99", () -> x.has(0, false, 99), true);
        idle(x, "worth 50", () -> x.has(0, false, 50), true);
        idle(x, "worth 40", () -> x.has(0, false, 40), false);
        idle(x, "empty", () -> x.has(1, false, 0), false);
        badIndex(x, "book 4", () -> x.has(4, true, 100));
        badArgument(x, "key 100", () -> x.has(0, true, 100));
        badArgument(x, "worth 100", () -> x.has(0, false, 100));
        for (int bad : OUTSIDE) {
            badIndex(x, "book", () -> x.has(bad, true, 0));
            badArgument(x, "number", () -> x.has(0, false, bad));
        }
    }

    private static Bookgrafter withThreeBooks() {
        Bookgrafter x = withBook(0, 1001, 2002, 3003);
        fillBook(x, 1, 1, 1001, 2002, 3003);
        fillBook(x, 2, 2, 1101, 2002, 1303);
        return x;
    }

    private static void near() {
        promise = 13;
        int[][] due = {
            {0, 20, 20, 20, 10, 30, 20}, {0, 19, 10, 20, 10, 20, -1}, {0, 99, 30, -1, 30, -1, -1},
            {0, 0, -1, 10, -1, 10, -1}, {0, 10, 10, 10, -1, 20, 10}, {0, 30, 30, 30, 20, -1, 30},
            {1, 20, 20, 20, 30, 10, 20}, {1, 19, 20, 10, 20, 10, -1}, {1, 99, -1, 30, -1, 30, -1},
            {1, 0, 10, -1, 10, -1, -1}, {2, 90, 20, 11, 20, 11, -1}, {2, 11, 11, 11, 20, 13, 11},
            {2, 10, -1, 20, -1, 20, -1}, {2, 12, 11, 13, 11, 13, -1}, {2, 9, 13, -1, 13, -1, -1},
            {3, 0, -1, -1, -1, -1, -1}, {3, 99, -1, -1, -1, -1, -1}};
        for (int[] row : due) {
            Bookgrafter x = withThreeBooks();
            for (int what = 0; what <= 4; what++) {
                int asked = what;
                int key = row[what + 2];
                int worth = key < 0 ? -1 : x.near(row[0], key, 4, true) % 100;
                idle(x, "near of " + row[0] + ", " + row[1] + ", " + what,
                        () -> x.near(row[0], row[1], asked, false), key);
                idle(x, "pair near", () -> x.near(row[0], row[1], asked, true), key < 0 ? -1 : key * 100 + worth);
            }
        }
        Bookgrafter x = withThreeBooks();
        idle(x, "the pair itself", () -> x.near(2, 13, 4, true), 1303);
        badIndex(x, "book 4", () -> x.near(4, 100, 5, true));
        badArgument(x, "key 100", () -> x.near(0, 100, 0, true));
        badArgument(x, "what 5", () -> x.near(0, 0, 5, true));
        for (int bad : OUTSIDE) {
            badIndex(x, "book", () -> x.near(bad, 0, 0, false));
            badArgument(x, "key", () -> x.near(0, bad, 0, false));
            badArgument(x, "what", () -> x.near(0, 0, bad, false));
        }
    }

    private static void end() {
        promise = 14;
        Bookgrafter x = withBook(2, 901, 1002, 1103);
        idle(x, "first key", () -> x.end(0, false, false), 10);
        idle(x, "last key", () -> x.end(0, true, false), 9);
        idle(x, "first pair", () -> x.end(0, false, true), 1002);
        idle(x, "last pair", () -> x.end(0, true, true), 901);
        idle(x, "no first pair", () -> x.end(1, false, true), -1);
        idle(x, "no last pair", () -> x.end(1, true, true), -1);
        refused(x, "no first key", () -> x.end(1, false, false));
        refused(x, "no last key", () -> x.end(1, true, false));
        badIndex(x, "book 4", () -> x.end(4, true, false));
        for (int bad : OUTSIDE) {
            badIndex(x, "book", () -> x.end(bad, true, false));
        }
    }

    private static void keyAt() {
        promise = 15;
        Bookgrafter x = withBook(2, 901, 1002, 1103);
        int[] due = {10, 11, 9, -1, -1};
        int[] dueBack = {9, 11, 10, -1, -1};
        for (int many = 0; many < 5; many++) {
            int asked = many;
            idle(x, "keyAt " + many, () -> x.keyAt(0, asked, false), due[many]);
            idle(x, "keyAt back " + many, () -> x.keyAt(0, asked, true), dueBack[many]);
        }
        idle(x, "none", () -> x.keyAt(1, 0, true), -1);
        x.fill(1, 0, 1, 100, 0);
        idle(x, "99", () -> x.keyAt(1, 99, false), 99);
        idle(x, "99 back", () -> x.keyAt(1, 99, true), 0);
        badIndex(x, "book 4", () -> x.keyAt(4, 100, true));
        badArgument(x, "many 100", () -> x.keyAt(0, 100, true));
        for (int bad : OUTSIDE) {
            badIndex(x, "book", () -> x.keyAt(bad, 0, false));
            badArgument(x, "many", () -> x.keyAt(0, bad, false));
        }
    }

    private static void tellBook() {
        promise = 16;
        Bookgrafter x = withBook(1, 503, 9999, 64, 9901);
        idle(x, "many", () -> x.tellBook(0, 0), 3);
        idle(x, "order", () -> x.tellBook(0, 1), 1);
        idle(x, "hash", () -> x.tellBook(0, 2), 6 + 64 + 98);
        idle(x, "not empty", () -> x.tellBook(0, 3), 0);
        idle(x, "hash of none", () -> x.tellBook(1, 2), 0);
        idle(x, "empty", () -> x.tellBook(1, 3), 1);
        badIndex(x, "book 4", () -> x.tellBook(4, 4));
        badArgument(x, "what 4", () -> x.tellBook(0, 4));
        for (int bad : OUTSIDE) {
            badIndex(x, "book", () -> x.tellBook(bad, 0));
            badArgument(x, "what", () -> x.tellBook(0, bad));
        }
    }

    private static void bookText() {
        promise = 17;
        Bookgrafter x = withBook(2, 901, 1000, 1199);
        idle(x, "text", () -> x.bookText(0), "{10=0, 11=99, 9=1}");
        idle(x, "empty", () -> x.bookText(3), "{}");
        x.put(3, 0, 0, 0);
        idle(x, "one", () -> x.bookText(3), "{0=0}");
        badIndex(x, "book 4", () -> x.bookText(4));
        for (int bad : OUTSIDE) {
            badIndex(x, "book", () -> x.bookText(bad));
        }
    }

    private static void sameBooks() {
        promise = 18;
        Bookgrafter x = withBook(0, 1001, 2002);
        fillBook(x, 1, 1, 2002, 1001);
        fillBook(x, 2, 0, 1001, 2003);
        idle(x, "whatever the orders", () -> x.sameBooks(0, 1), true);
        idle(x, "another worth", () -> x.sameBooks(0, 2), false);
        idle(x, "itself", () -> x.sameBooks(2, 2), true);
        idle(x, "empty", () -> x.sameBooks(0, 3), false);
        x.take(2, 20);
        idle(x, "fewer", () -> x.sameBooks(0, 2), false);
        idle(x, "more", () -> x.sameBooks(2, 0), false);
        badIndex(x, "both 4", () -> x.sameBooks(4, 4));
        for (int bad : OUTSIDE) {
            badIndex(x, "book", () -> x.sameBooks(bad, 0));
            badIndex(x, "other", () -> x.sameBooks(0, bad));
        }
    }

    private static void views() {
        openView();
        narrowView();
        buildFromView();
        viewWrites();
        viewDrop();
        viewNear();
        viewTell();
    }

    private static void openView() {
        promise = 19;
        Bookgrafter x = withBook(0, 1001, 2002, 3003);
        fillBook(x, 1, 1, 1001, 2002, 3003);
        fillBook(x, 2, 2, 1001, 2002, 3003, 1104);
        String[] ahead = {"1001 ", "1001 ", "1001 2002 ", "1001 2002 "};
        String[] behind = {"2002 3003 ", "1001 2002 3003 ", "2002 3003 ", "1001 2002 3003 "};
        String[] both = {"2002 ", "1001 2002 ", "2002 3003 ", "1001 2002 3003 "};
        for (int ends = 0; ends <= 3; ends++) {
            x.openView(0, 0, 0, 99, 20, ends);
            due("kind 0, ends " + ends, viewText(x, 0), ahead[ends]);
            x.openView(0, 0, 1, 10, 0, ends);
            due("kind 1, ends " + ends, viewText(x, 0), behind[ends]);
            due("kind 2, how many", x.openView(0, 0, 2, 10, 30, ends), both[ends].length() / 5);
            due("kind 2, ends " + ends, viewText(x, 0), both[ends]);
            x.openView(1, 0, 2, 20, 20, ends);
            due("one key, ends " + ends, viewText(x, 1), ends == 3 ? "2002 " : "");
        }
        refused(x, "low behind high", () -> x.openView(0, 0, 2, 21, 20, 3));
        due("the view stays", viewText(x, 0), "1001 2002 3003 ");
        refused(x, "low behind high, order 1", () -> x.openView(0, 1, 2, 20, 21, 3));
        due("order 1", x.openView(1, 1, 2, 30, 10, 2), 2);
        due("order 1", viewText(x, 1), "2002 1001 ");
        due("order 2", x.openView(1, 2, 2, 20, 11, 3), 3);
        due("order 2", viewText(x, 1), "2002 3003 1104 ");
        int acts = x.house(0);
        x.openView(1, 2, 0, 0, 11, 0);
        due("no act", x.house(0), acts);
        x.put(2, 90, 9, 0);
        x.put(2, 1, 9, 0);
        due("a view sees what comes", viewText(x, 1), "1001 2002 3003 9009 109 ");
        badIndex(x, "view 2", () -> x.openView(2, 0, 3, 0, 0, 0));
        badIndex(x, "book 4", () -> x.openView(0, 4, 3, 0, 0, 0));
        badArgument(x, "kind 3", () -> x.openView(0, 0, 3, 0, 0, 0));
        badArgument(x, "low 100", () -> x.openView(0, 0, 0, 100, 0, 0));
        badArgument(x, "high 100", () -> x.openView(0, 0, 1, 0, 100, 0));
        badArgument(x, "ends 4", () -> x.openView(0, 0, 0, 0, 0, 4));
        badArgument(x, "ends 4 ahead of -9", () -> x.openView(0, 0, 2, 9, 0, 4));
        for (int bad : OUTSIDE) {
            badIndex(x, "view", () -> x.openView(bad, 0, 0, 0, 0, 0));
            badIndex(x, "book", () -> x.openView(0, bad, 0, 0, 0, 0));
            badArgument(x, "kind", () -> x.openView(0, 0, bad, 0, 0, 0));
            badArgument(x, "low", () -> x.openView(0, 0, 0, bad, 0, 0));
            badArgument(x, "high", () -> x.openView(0, 0, 1, 0, bad, 0));
            badArgument(x, "ends", () -> x.openView(0, 0, 0, 0, 0, bad));
        }
    }

    private static void narrowView() {
        promise = 20;
        Bookgrafter x = withBook(1, 1001, 2002, 3003, 4004);
        x.openView(0, 0, 2, 40, 10, 3);
        int acts = x.house(0);
        due("kind 0", x.narrowView(0, 0, 99, 20), 3);
        due("kind 0", viewText(x, 0), "4004 3003 2002 ");
        due("kind 1", x.narrowView(0, 1, 30, 99), 2);
        due("kind 1", viewText(x, 0), "3003 2002 ");
        due("no act", x.house(0), acts);
        refused(x, "high not within", () -> x.narrowView(0, 0, 0, 19));
        refused(x, "low not within", () -> x.narrowView(0, 1, 31, 0));
        refused(x, "kind 2, low not within", () -> x.narrowView(0, 2, 31, 25));
        refused(x, "kind 2, high not within", () -> x.narrowView(0, 2, 25, 19));
        refused(x, "low behind high", () -> x.narrowView(0, 2, 25, 26));
        due("kind 2, one key", x.narrowView(0, 2, 30, 30), 1);
        due("kind 2", viewText(x, 0), "3003 ");
        due("it keeps its bounds", x.put(0, 29, 9, 0), -1);
        due("kind 2", viewText(x, 0), "3003 ");
        x.openView(0, 0, 2, 30, 30, 0);
        refused(x, "none within", () -> x.narrowView(0, 0, 30, 30));
        badIndex(x, "view 2", () -> x.narrowView(2, 3, 100, 100));
        badArgument(x, "kind 3", () -> x.narrowView(0, 3, 0, 0));
        badArgument(x, "low 100", () -> x.narrowView(0, 0, 100, 30));
        badArgument(x, "high 100", () -> x.narrowView(0, 1, 30, 100));
        for (int bad : OUTSIDE) {
            badIndex(x, "view", () -> x.narrowView(bad, 0, 0, 0));
            badArgument(x, "kind", () -> x.narrowView(0, bad, 0, 0));
            badArgument(x, "low", () -> x.narrowView(0, 0, bad, 0));
            badArgument(x, "high", () -> x.narrowView(0, 1, 0, bad));
        }
    }

    private static void buildFromView() {
        promise = 21;
        for (int how = 0; how <= 1; how++) {
            Bookgrafter x = withBook(2, 901, 1002, 1103);
            x.openView(0, 0, 1, 10, 0, 0);
            x.startWalk(0);
            x.walkNext();
            int acts = x.house(0);
            due("buildFromView", x.buildFromView(0, 0, how), 2);
            due("acts", x.house(0), acts + 1);
            due("text", x.bookText(0), "{11=3, 9=1}");
            due("order", x.tellBook(0, 1), 2);
            x.drop(0, 2);
            due("the view is of the former book", viewText(x, 0), "1103 901 ");
            due("a build does not write", x.walkTake(), 1002);
        }
        Bookgrafter x = new Bookgrafter();
        changes(x, "of none", () -> x.buildFromView(3, 1, 0), 0, ONE_BOOK_ACT);
        badIndex(x, "into 4", () -> x.buildFromView(4, 0, 2));
        badIndex(x, "view 2", () -> x.buildFromView(0, 2, 2));
        badArgument(x, "how 2", () -> x.buildFromView(0, 0, 2));
        for (int bad : OUTSIDE) {
            badIndex(x, "into", () -> x.buildFromView(bad, 0, 0));
            badIndex(x, "view", () -> x.buildFromView(0, bad, 0));
            badArgument(x, "how", () -> x.buildFromView(0, 0, bad));
        }
    }

    private static void viewWrites() {
        promise = 22;
        Bookgrafter x = withBook(0, 1001, 2002);
        x.openView(0, 0, 2, 10, 20, 1);
        x.startWalk(0);
        x.walkNext();
        int acts = x.house(0);
        refused(x, "not within", () -> x.viewPut(0, 20, 5));
        due("-9 does not write", x.walkSet(7), 1);
        due("there", x.viewPut(0, 10, 0), 7);
        refused(x, "it writes", x::walkTake);
        due("not broken", x.walkNext(), 2002);
        due("comes", x.viewPut(0, 19, 99), -1);
        refused(x, "broken", x::walkNext);
        due("acts", x.house(0), acts + 3);
        due("text", x.bookText(0), "{10=0, 19=99, 20=2}");
        x.freshBook(0, 0);
        due("the former book", x.viewPut(0, 19, 1), 99);
        due("it lies nowhere", x.bookText(0), "{}");
        badIndex(x, "view 2", () -> x.viewPut(2, 100, 100));
        badArgument(x, "key 100", () -> x.viewPut(0, 100, 0));
        badArgument(x, "worth 100 ahead of -9", () -> x.viewPut(0, 20, 100));
        for (int bad : OUTSIDE) {
            badIndex(x, "view", () -> x.viewPut(bad, 0, 0));
            badArgument(x, "key", () -> x.viewPut(0, bad, 0));
            badArgument(x, "worth", () -> x.viewPut(0, 0, bad));
        }
        promise = 23;
        Bookgrafter y = withBook(0, 1001, 2002);
        y.openView(0, 0, 2, 10, 20, 1);
        y.startWalk(0);
        y.walkNext();
        int before = y.house(0);
        due("not within", y.viewTake(0, 20), -1);
        refused(y, "it writes", y::walkTake);
        due("not broken", y.walkNext(), 2002);
        due("not there", y.viewTake(0, 11), -1);
        due("taken", y.viewTake(0, 10), 1);
        due("acts", y.house(0), before + 3);
        refused(y, "broken", y::walkNext);
        due("text", y.bookText(0), "{20=2}");
        badIndex(y, "view 2", () -> y.viewTake(2, 100));
        badArgument(y, "key 100", () -> y.viewTake(0, 100));
        for (int bad : OUTSIDE) {
            badIndex(y, "view", () -> y.viewTake(bad, 0));
            badArgument(y, "key", () -> y.viewTake(0, bad));
        }
    }

    private static void viewDrop() {
        promise = 24;
        Bookgrafter x = withBook(1, 1001, 2002, 3003, 4004, 5005, 6006);
        x.openView(1, 0, 2, 60, 10, 0);
        int acts = x.house(0);
        due("first", x.viewDrop(1, 0), 5005);
        due("last", x.viewDrop(1, 1), 2002);
        due("all", x.viewDrop(1, 2), 2);
        due("acts", x.house(0), acts + 3);
        due("others stay", x.bookText(0), "{60=6, 10=1}");
        changes(x, "first of none", () -> x.viewDrop(1, 0), -1, ONE_BOOK_ACT);
        changes(x, "last of none", () -> x.viewDrop(1, 1), -1, ONE_BOOK_ACT);
        changes(x, "all of none", () -> x.viewDrop(1, 2), 0, ONE_BOOK_ACT);
        x.startWalk(0);
        x.walkNext();
        x.viewDrop(1, 2);
        refused(x, "it writes", x::walkTake);
        due("not broken", x.walkNext(), 1001);
        badIndex(x, "view 2", () -> x.viewDrop(2, 3));
        badArgument(x, "what 3", () -> x.viewDrop(0, 3));
        for (int bad : OUTSIDE) {
            badIndex(x, "view", () -> x.viewDrop(bad, 0));
            badArgument(x, "what", () -> x.viewDrop(0, bad));
        }
    }

    private static void viewNear() {
        promise = 25;
        Bookgrafter x = withBook(1, 1001, 2002, 3003, 4004);
        x.openView(0, 0, 2, 30, 20, 3);
        int[][] due = {{40, -1, 3003, -1, 3003, -1}, {30, 3003, 3003, -1, 2002, 3003}, {25, 3003, 2002, 3003, 2002, -1},
            {20, 2002, 2002, 3003, -1, 2002}, {10, 2002, -1, 2002, -1, -1}, {0, 2002, -1, 2002, -1, -1},
            {99, -1, 3003, -1, 3003, -1}};
        for (int[] row : due) {
            for (int what = 0; what <= 4; what++) {
                int asked = what;
                idle(x, "viewNear of " + row[0] + ", " + what, () -> x.viewNear(0, row[0], asked), row[what + 1]);
            }
        }
        x.openView(0, 0, 2, 30, 30, 0);
        for (int what = 0; what <= 4; what++) {
            int asked = what;
            idle(x, "none within", () -> x.viewNear(0, 30, asked), -1);
        }
        badIndex(x, "view 2", () -> x.viewNear(2, 100, 5));
        badArgument(x, "key 100", () -> x.viewNear(0, 100, 0));
        badArgument(x, "what 5", () -> x.viewNear(0, 0, 5));
        for (int bad : OUTSIDE) {
            badIndex(x, "view", () -> x.viewNear(bad, 0, 0));
            badArgument(x, "key", () -> x.viewNear(0, bad, 0));
            badArgument(x, "what", () -> x.viewNear(0, 0, bad));
        }
    }

    private static void viewTell() {
        promise = 26;
        Bookgrafter x = withBook(2, 901, 1002, 1103, 5099);
        x.openView(0, 0, 1, 50, 0, 1);
        idle(x, "many", () -> x.viewTell(0, 0), 3);
        idle(x, "first", () -> x.viewTell(0, 1), 50);
        idle(x, "last", () -> x.viewTell(0, 2), 9);
        idle(x, "worths", () -> x.viewTell(0, 3), 103);
        idle(x, "many of none", () -> x.viewTell(1, 0), 0);
        idle(x, "worths of none", () -> x.viewTell(1, 3), 0);
        refused(x, "first of none", () -> x.viewTell(1, 1));
        refused(x, "last of none", () -> x.viewTell(1, 2));
        badIndex(x, "view 2", () -> x.viewTell(2, 4));
        badArgument(x, "what 4", () -> x.viewTell(0, 4));
        for (int bad : OUTSIDE) {
            badIndex(x, "view", () -> x.viewTell(bad, 0));
            badArgument(x, "what", () -> x.viewTell(0, bad));
        }
    }

    private static void walks() {
        promise = 27;
        Bookgrafter x = withBook(2, 901, 1002, 1103);
        int acts = x.house(0);
        due("startWalk", x.startWalk(0), 3);
        refused(x, "nothing is told", x::walkTake);
        due("walkNext", x.walkNext(), 1002);
        due("again from the first one", x.startWalk(0), 3);
        refused(x, "nothing is told", x::walkTake);
        badIndex(x, "book 4", () -> x.startWalk(4));
        for (int bad : OUTSIDE) {
            badIndex(x, "book", () -> x.startWalk(bad));
        }
        due("no act", x.house(0), acts);

        promise = 28;
        due("first", x.walkNext(), 1002);
        x.put(0, 11, 33, 0);
        due("the worth when it is told", x.walkNext(), 1133);
        due("last", x.walkNext(), 901);
        idle(x, "none", x::walkNext, -1);
        due("what is told stays", x.walkSet(8), 1);
        due("no act but walkSet and put", x.house(0), acts + 2);
        x.take(0, 10);
        refused(x, "broken", x::walkNext);
        x.put(0, 10, 2, 0);
        refused(x, "broken for good", x::walkNext);
        x.startWalk(0);
        due("a new walk", x.walkNext(), 1002);
        x.put(3, 1, 1, 0);
        x.take(3, 1);
        due("another book is nothing to it", x.walkNext(), 1133);
        x.startWalk(3);
        idle(x, "an empty book", x::walkNext, -1);
        walkWrites();
    }

    private static void walkWrites() {
        promise = 29;
        Bookgrafter x = withBook(0, 1001, 2002);
        x.startWalk(0);
        x.walkNext();
        int acts = x.house(0);
        due("walkSet", x.walkSet(0), 1);
        due("it stays told", x.walkSet(99), 0);
        due("acts", x.house(0), acts + 2);
        due("text", x.bookText(0), "{10=99, 20=2}");
        badArgument(x, "worth 100", () -> x.walkSet(100));
        for (int bad : OUTSIDE) {
            badArgument(x, "worth", () -> x.walkSet(bad));
        }
        x.take(0, 10);
        refused(x, "nothing is told", () -> x.walkSet(0));
        badArgument(x, "worth ahead of -9", () -> x.walkSet(-1));

        promise = 30;
        Bookgrafter y = withBook(1, 1001, 2002, 3003);
        y.startWalk(0);
        y.walkNext();
        int before = y.house(0);
        due("walkTake", y.walkTake(), 3003);
        refused(y, "nothing is told", y::walkTake);
        due("the walk goes on", y.walkNext(), 2002);
        due("told with what was set", y.walkSet(9), 2);
        due("walkTake", y.walkTake(), 2009);
        due("acts", y.house(0), before + 3);
        due("text", y.bookText(0), "{10=1}");
        due("to the last one", y.walkNext(), 1001);
        due("none behind", y.walkNext(), -1);
        due("walkTake after -1", y.walkTake(), 1001);
        due("empty", y.bookText(0), "{}");
        due("none", y.walkNext(), -1);
    }

    private static void shelves() {
        freshShelf();
        buildShelf();
        keysOf();
        lay();
        shelfBoth();
        shelfDrop();
        shelfCut();
        shelfNear();
        shelfTell();
        sameShelves();
    }

    private static void freshShelf() {
        promise = 31;
        Bookgrafter x = new Bookgrafter();
        x.lay(0, 0, 1, 5, true);
        int acts = x.house(1);
        due("freshShelf", x.freshShelf(0, 1), 5);
        due("acts", x.house(1), acts + 1);
        due("order", x.shelfTell(0, 1), 1);
        due("many", x.shelfTell(0, 0), 0);
        changes(x, "an empty one again", () -> x.freshShelf(0, 1), 0, ONE_SHELF_ACT);
        due("no book act", x.house(0), 0);
        badIndex(x, "shelf 3", () -> x.freshShelf(3, 3));
        badArgument(x, "order 3", () -> x.freshShelf(0, 3));
        for (int bad : OUTSIDE) {
            badIndex(x, "shelf", () -> x.freshShelf(bad, 0));
            badArgument(x, "order", () -> x.freshShelf(0, bad));
        }
    }

    private static void buildShelf() {
        promise = 32;
        int[] orders = {2, 2, 2, 2, 0, 1, 2};
        String[] due = {"10 11 9 ", "10 11 9 ", "10 11 9 ", "10 11 9 ", "9 10 11 ", "11 10 9 ", "10 11 9 "};
        for (int how = 0; how <= 6; how++) {
            Bookgrafter x = new Bookgrafter();
            fillShelf(x, 0, 2, 9, 10, 11);
            int acts = x.house(1);
            due("buildShelf", x.buildShelf(2, 0, how), 3);
            due("acts", x.house(1), acts + 1);
            due("keys, how " + how, shelfText(x, 2), due[how]);
            due("order, how " + how, x.shelfTell(2, 1), orders[how]);
            x.shelfDrop(2, 2);
            due("the other one stays", shelfText(x, 0), "10 11 9 ");
            due("of itself", x.buildShelf(0, 0, how), 3);
            due("of itself", shelfText(x, 0), due[how]);
        }
        Bookgrafter x = new Bookgrafter();
        changes(x, "of an empty one", () -> x.buildShelf(1, 2, 0), 0, ONE_SHELF_ACT);
        badIndex(x, "into 3", () -> x.buildShelf(3, 0, 7));
        badIndex(x, "from 3", () -> x.buildShelf(0, 3, 7));
        badArgument(x, "how 7", () -> x.buildShelf(0, 0, 7));
        for (int bad : OUTSIDE) {
            badIndex(x, "into", () -> x.buildShelf(bad, 0, 0));
            badIndex(x, "from", () -> x.buildShelf(0, bad, 0));
            badArgument(x, "how", () -> x.buildShelf(0, 0, bad));
        }
    }

    private static void keysOf() {
        promise = 33;
        Bookgrafter x = withBook(1, 901, 1000, 1199);
        x.freshShelf(2, 2);
        int acts = x.house(1);
        int bookActs = x.house(0);
        due("keysOf", x.keysOf(2, 0), 3);
        due("shelf acts", x.house(1), acts + 1);
        due("book acts", x.house(0), bookActs);
        due("order", x.shelfTell(2, 1), 0);
        due("keys", shelfText(x, 2), "9 10 11 ");
        x.lay(2, 10, 0, 1, false);
        due("the book stays", x.bookText(0), "{11=99, 10=0, 9=1}");
        due("of an empty one", x.keysOf(2, 3), 0);
        due("same keys of another order", x.keysOf(1, 0), 3);
        fillShelf(x, 0, 2, 9, 10, 11);
        due("they are the same", x.sameShelves(0, 1, 0), true);
        badIndex(x, "shelf 3", () -> x.keysOf(3, 0));
        badIndex(x, "book 4", () -> x.keysOf(0, 4));
        for (int bad : OUTSIDE) {
            badIndex(x, "shelf", () -> x.keysOf(bad, 0));
            badIndex(x, "book", () -> x.keysOf(0, bad));
        }
    }

    private static void lay() {
        promise = 34;
        Bookgrafter x = new Bookgrafter();
        int acts = x.house(1);
        due("lay", x.lay(0, 98, 3, 4, true), 4);
        due("keys turn at 100", shelfText(x, 0), "1 4 7 98 ");
        due("some are there", x.lay(0, 7, 3, 2, true), 1);
        due("goes", x.lay(0, 1, 3, 3, false), 3);
        due("acts", x.house(1), acts + 3);
        due("keys", shelfText(x, 0), "10 98 ");
        changes(x, "none comes", () -> x.lay(0, 98, 0, 100, true), 0, ONE_SHELF_ACT);
        changes(x, "many 0", () -> x.lay(0, 0, 0, 0, true), 0, ONE_SHELF_ACT);
        due("all", x.lay(1, 99, 99, 100, true), 100);
        badIndex(x, "shelf 3", () -> x.lay(3, -1, -1, -1, true));
        badArgument(x, "first 100", () -> x.lay(0, 100, 0, 0, true));
        badArgument(x, "step 100", () -> x.lay(0, 0, 100, 0, true));
        badArgument(x, "many 101", () -> x.lay(0, 0, 0, 101, true));
        for (int bad : OUTSIDE) {
            badIndex(x, "shelf", () -> x.lay(bad, 0, 0, 0, false));
            badArgument(x, "first", () -> x.lay(0, bad, 0, 0, false));
            badArgument(x, "step", () -> x.lay(0, 0, bad, 0, false));
            badArgument(x, "many", () -> x.lay(0, 0, 0, bad, false));
        }
    }

    private static void shelfBoth() {
        promise = 35;
        String[] due = {"5 4 3 2 1 ", "4 3 ", "2 1 "};
        int[] many = {1, 2, 2};
        for (int what = 0; what <= 2; what++) {
            Bookgrafter x = new Bookgrafter();
            fillShelf(x, 0, 1, 1, 2, 3, 4);
            fillShelf(x, 1, 2, 3, 4, 5);
            int acts = x.house(1);
            due("shelfBoth " + what, x.shelfBoth(0, 1, what), many[what]);
            due("acts", x.house(1), acts + 1);
            due("keys " + what, shelfText(x, 0), due[what]);
            due("other", shelfText(x, 1), "3 4 5 ");
            int again = what;
            changes(x, "again " + what, () -> x.shelfBoth(0, 1, again), 0, ONE_SHELF_ACT);
        }
        Bookgrafter x = new Bookgrafter();
        refused(x, "shelf is other", () -> x.shelfBoth(1, 1, 0));
        badArgument(x, "what 3 ahead of -9", () -> x.shelfBoth(1, 1, 3));
        badIndex(x, "shelf 3", () -> x.shelfBoth(3, 3, 3));
        for (int bad : OUTSIDE) {
            badIndex(x, "shelf", () -> x.shelfBoth(bad, 0, 0));
            badIndex(x, "other", () -> x.shelfBoth(0, bad, 0));
            badArgument(x, "what", () -> x.shelfBoth(0, 1, bad));
        }
    }

    private static void shelfDrop() {
        promise = 36;
        Bookgrafter x = new Bookgrafter();
        fillShelf(x, 0, 2, 9, 10, 11, 50);
        int acts = x.house(1);
        due("first", x.shelfDrop(0, 0), 10);
        due("last", x.shelfDrop(0, 1), 9);
        due("keys", shelfText(x, 0), "50 11 ");
        due("all", x.shelfDrop(0, 2), 2);
        due("acts", x.house(1), acts + 3);
        changes(x, "first of none", () -> x.shelfDrop(0, 0), -1, ONE_SHELF_ACT);
        changes(x, "last of none", () -> x.shelfDrop(0, 1), -1, ONE_SHELF_ACT);
        changes(x, "all of none", () -> x.shelfDrop(0, 2), 0, ONE_SHELF_ACT);
        badIndex(x, "shelf 3", () -> x.shelfDrop(3, 3));
        badArgument(x, "what 3", () -> x.shelfDrop(0, 3));
        for (int bad : OUTSIDE) {
            badIndex(x, "shelf", () -> x.shelfDrop(bad, 0));
            badArgument(x, "what", () -> x.shelfDrop(0, bad));
        }
    }

    private static void shelfCut() {
        promise = 37;
        Bookgrafter x = new Bookgrafter();
        fillShelf(x, 0, 1, 10, 20, 30, 40, 50);
        fillShelf(x, 1, 0, 7);
        idle(x, "nothing is done", () -> x.shelfCut(0, 40, 10, 0, 0), 3);
        idle(x, "what 0 leaves into alone", () -> x.shelfCut(0, 99, 0, 0, 1), 5);
        int acts = x.house(1);
        due("to another one", x.shelfCut(0, 40, 10, 4, 1), 3);
        due("to another one", shelfText(x, 1), "40 30 20 ");
        due("its order", x.shelfTell(1, 1), 1);
        due("the shelf stays", shelfText(x, 0), "50 40 30 20 10 ");
        due("first goes", x.shelfCut(0, 40, 10, 2, 1), 40);
        due("last goes", x.shelfCut(0, 40, 10, 3, 1), 20);
        due("keys", shelfText(x, 0), "50 30 10 ");
        due("into counts for 4 alone", shelfText(x, 1), "40 30 20 ");
        due("middle goes", x.shelfCut(0, 50, 10, 1, 1), 2);
        due("keys", shelfText(x, 0), "10 ");
        due("to itself", x.shelfCut(1, 40, 20, 4, 1), 2);
        due("to itself", shelfText(x, 1), "40 30 ");
        due("acts", x.house(1), acts + 5);
        changes(x, "first of none", () -> x.shelfCut(1, 30, 30, 2, 0), -1, ONE_SHELF_ACT);
        changes(x, "last of none", () -> x.shelfCut(1, 30, 30, 3, 0), -1, ONE_SHELF_ACT);
        changes(x, "all of none", () -> x.shelfCut(1, 30, 30, 1, 0), 0, ONE_SHELF_ACT);
        refused(x, "low behind high", () -> x.shelfCut(1, 30, 31, 1, 0));
        refused(x, "low behind high, what 0", () -> x.shelfCut(1, 30, 31, 0, 0));
        x.freshShelf(2, 2);
        refused(x, "low behind high, order 2", () -> x.shelfCut(2, 8, 11, 4, 0));
        due("0 is first in order 2", x.shelfCut(2, 0, 99, 4, 2), 0);
        badIndex(x, "shelf 3", () -> x.shelfCut(3, 100, 0, 5, 0));
        badIndex(x, "into 3, what 0", () -> x.shelfCut(0, 30, 20, 0, 3));
        badArgument(x, "low 100", () -> x.shelfCut(0, 100, 0, 0, 0));
        badArgument(x, "high 100", () -> x.shelfCut(0, 0, 100, 0, 0));
        badArgument(x, "what 5 ahead of -9", () -> x.shelfCut(0, 0, 1, 5, 0));
        for (int bad : OUTSIDE) {
            badIndex(x, "shelf", () -> x.shelfCut(bad, 0, 0, 0, 0));
            badIndex(x, "into", () -> x.shelfCut(0, 0, 0, 1, bad));
            badArgument(x, "low", () -> x.shelfCut(0, bad, 0, 1, 0));
            badArgument(x, "high", () -> x.shelfCut(0, 0, bad, 1, 0));
            badArgument(x, "what", () -> x.shelfCut(0, 0, 0, bad, 0));
        }
    }

    private static void shelfNear() {
        promise = 38;
        Bookgrafter x = new Bookgrafter();
        fillShelf(x, 0, 0, 10, 20, 30);
        fillShelf(x, 1, 1, 10, 20, 30);
        fillShelf(x, 2, 2, 11, 20, 13);
        int[][] due = {
            {0, 20, 20, 20, 10, 30, 20}, {0, 19, 10, 20, 10, 20, -1}, {0, 99, 30, -1, 30, -1, -1},
            {0, 0, -1, 10, -1, 10, -1}, {1, 20, 20, 20, 30, 10, 20}, {1, 19, 20, 10, 20, 10, -1},
            {1, 99, -1, 30, -1, 30, -1}, {1, 0, 10, -1, 10, -1, -1}, {2, 90, 20, 11, 20, 11, -1},
            {2, 11, 11, 11, 20, 13, 11}, {2, 9, 13, -1, 13, -1, -1}};
        for (int[] row : due) {
            for (int what = 0; what <= 4; what++) {
                int asked = what;
                idle(x, "shelfNear of " + row[0] + ", " + row[1] + ", " + what,
                        () -> x.shelfNear(row[0], row[1], asked), row[what + 2]);
            }
        }
        badIndex(x, "shelf 3", () -> x.shelfNear(3, 100, 5));
        badArgument(x, "key 100", () -> x.shelfNear(0, 100, 0));
        badArgument(x, "what 5", () -> x.shelfNear(0, 0, 5));
        for (int bad : OUTSIDE) {
            badIndex(x, "shelf", () -> x.shelfNear(bad, 0, 0));
            badArgument(x, "key", () -> x.shelfNear(0, bad, 0));
            badArgument(x, "what", () -> x.shelfNear(0, 0, bad));
        }
    }

    private static void shelfTell() {
        promise = 39;
        Bookgrafter x = new Bookgrafter();
        fillShelf(x, 0, 2, 9, 10, 11);
        int[] due = {3, 2, 30, 10, 9};
        for (int what = 0; what <= 4; what++) {
            int asked = what;
            idle(x, "shelfTell " + what, () -> x.shelfTell(0, asked), due[what]);
        }
        idle(x, "many of none", () -> x.shelfTell(1, 0), 0);
        idle(x, "keys of none", () -> x.shelfTell(1, 2), 0);
        refused(x, "first of none", () -> x.shelfTell(1, 3));
        refused(x, "last of none", () -> x.shelfTell(1, 4));
        badIndex(x, "shelf 3", () -> x.shelfTell(3, 5));
        badArgument(x, "what 5", () -> x.shelfTell(0, 5));
        for (int bad : OUTSIDE) {
            badIndex(x, "shelf", () -> x.shelfTell(bad, 0));
            badArgument(x, "what", () -> x.shelfTell(0, bad));
        }
    }

    private static void sameShelves() {
        promise = 40;
        Bookgrafter x = new Bookgrafter();
        fillShelf(x, 0, 2, 9, 10, 11);
        fillShelf(x, 1, 1, 9, 10, 11);
        fillShelf(x, 2, 0, 9, 11);
        idle(x, "whatever the orders", () -> x.sameShelves(0, 1, 0), true);
        idle(x, "itself", () -> x.sameShelves(2, 2, 0), true);
        idle(x, "fewer", () -> x.sameShelves(2, 0, 0), false);
        idle(x, "more", () -> x.sameShelves(0, 2, 0), false);
        idle(x, "has all of fewer", () -> x.sameShelves(0, 2, 1), true);
        idle(x, "has not all of more", () -> x.sameShelves(2, 0, 1), false);
        idle(x, "has all of the same", () -> x.sameShelves(1, 0, 1), true);
        badIndex(x, "both 3", () -> x.sameShelves(3, 3, 2));
        badArgument(x, "what 2", () -> x.sameShelves(0, 0, 2));
        for (int bad : OUTSIDE) {
            badIndex(x, "shelf", () -> x.sameShelves(bad, 0, 0));
            badIndex(x, "other", () -> x.sameShelves(0, bad, 0));
            badArgument(x, "what", () -> x.sameShelves(0, 0, bad));
        }
    }

    private static void whole() {
        promise = 41;
        Bookgrafter x = new Bookgrafter();
        x.freshBook(0, 0);
        x.freshBook(1, 0);
        x.freshShelf(0, 0);
        x.walkNext();
        x.walkNext();
        x.walkNext();
        x.knock();
        x.knock();
        x.knock();
        x.knock();
        int[] due = {2, 1, 3, 4};
        for (int what = 0; what <= 3; what++) {
            int asked = what;
            idle(x, "house " + what, () -> x.house(asked), due[what]);
        }
        badArgument(x, "what 4", () -> x.house(4));
        for (int bad : OUTSIDE) {
            badArgument(x, "what", () -> x.house(bad));
        }
        promise = 42;
        changes(x, "knock", x::knock, 5, ONE_KNOCK);
        changes(x, "knock again", x::knock, 6, ONE_KNOCK);
        promise = 43;
        idle(x, "isSound", x::isSound, true);
        for (int order = 0; order <= 2; order++) {
            Bookgrafter y = withBook(order, 901, 1002, 1103, 99, 9900);
            y.fill(1, 0, 1, 100, 50);
            y.freshShelf(order, order);
            y.lay(order, 3, 7, 40, true);
            y.openView(0, 0, 2, 50, 50, 0);
            y.openView(1, 0, 1, 10, 10, 1);
            idle(y, "isSound of order " + order, y::isSound, true);
        }
        promise = 44;
        emptyDigest();
        fullDigest();
    }

    private static void emptyDigest() {
        long d = 17706;
        long[] empty = {0, 0, 0, 0, 0, 0, 0, 0, 0, 0, 0, 0, 0, -1, -1, 0, 0, -1, -1, 0, 0, -1,
            0, 0, 0, 0, 0, 0, 0, 0, 0, 0, 0, 0, 0, 1};
        for (long v : empty) {
            d = d * 31 + v;
        }
        Bookgrafter x = new Bookgrafter();
        due("digest of a new object", x.digest(), d);
        due("digest tells no -9", x.house(2), 0);
        due("isSound tells no -9", x.isSound() && x.house(2) == 0, true);
    }

    private static void fullDigest() {
        Bookgrafter x = withBook(2, 901, 1002);
        x.openView(1, 0, 0, 0, 9, 2);
        x.startWalk(0);
        x.walkNext();
        fillShelf(x, 2, 1, 3, 4);
        x.walkSet(2);
        x.knock();
        x.pour(1, 1);
        long[] values = {2, 2, (9 ^ 1) + (10 ^ 2), 1002, 901, 0, 0, 0, 0, 0, 0, 0, 0, 0,
            0, -1, -1, 0, 2, 10, 9, 3, 1, 10, 0, 0, 0, 0, 0, 0, 2, 1, 7, 4, 3, 4, 3, 1, 1, 1};
        long d = 17706;
        for (long v : values) {
            d = d * 31 + v;
        }
        due("digest", x.digest(), d);
    }

    /** All KEYs are there, each with its own number as its WORTH: what stands at both ends counts, too. */
    private static Bookgrafter full(int order) {
        Bookgrafter x = new Bookgrafter();
        x.freshBook(0, order);
        x.fill(0, 0, 1, 100, 0);
        x.freshShelf(0, order);
        x.lay(0, 0, 1, 100, true);
        return x;
    }

    private static int first(int order) {
        return order == 1 ? 99 : 0;
    }

    private static int last(int order) {
        return order == 1 ? 0 : 99;
    }

    private static void fullBooks(int order) {
        int first = first(order);
        int last = last(order);
        Bookgrafter x = full(order);
        promise = 3;
        for (int how = 0; how <= 6; how++) {
            due("build of all", x.buildBook(1, 0, how), 100);
            due("the same", x.sameBooks(0, 1), true);
        }
        promise = 4;
        due("last one goes", x.splitBook(1, x.end(1, true, false), 2), 1);
        due("all others go", x.splitBook(1, x.end(1, false, false), 2), 99);
        due("none is left", x.bookText(1), "{}");
        promise = 6;
        due("pour all", x.pour(1, 0), 100);
        promise = 7;
        due("keep all", x.keep(1, 0, true), 0);
        due("keep none", x.keep(1, 0, false), 100);
        promise = 12;
        due("has first", x.has(0, true, first), true);
        due("has worth of the last one", x.has(0, false, last), true);
        promise = 13;
        for (int what : new int[] {0, 1, 4}) {
            due("near first", x.near(0, first, what, false), first);
            due("near last", x.near(0, last, what, true), last * 101);
        }
        due("near, ahead of the first one", x.near(0, first, 2, true), -1);
        due("near, behind the last one", x.near(0, last, 3, true), -1);
        promise = 14;
        due("first", x.end(0, false, false), first);
        due("last", x.end(0, true, true), last * 101);
        promise = 15;
        due("keyAt 0", x.keyAt(0, 0, false), first);
        due("keyAt 99", x.keyAt(0, 99, false), last);
        due("keyAt back 0", x.keyAt(0, 0, true), last);
        due("keyAt back 99", x.keyAt(0, 99, true), first);
        promise = 16;
        due("many", x.tellBook(0, 0), 100);
        due("hash", x.tellBook(0, 2), 0);
        promise = 17;
        due("text has the first one", x.bookText(0).startsWith("{" + first + "=" + first + ", "), true);
        due("text has the last one", x.bookText(0).endsWith(", " + last + "=" + last + "}"), true);
        promise = 18;
        x.buildBook(1, 0, 0);
        x.put(1, first, 50, 0);
        due("another first worth", x.sameBooks(0, 1), false);
        x.buildBook(1, 0, 0);
        x.take(1, last);
        due("no last one", x.sameBooks(0, 1), false);
        promise = 11;
        due("first goes", x.drop(0, 0), first * 101);
        due("last goes", x.drop(0, 1), last * 101);
        x.put(0, 0, 0, 0);
        x.put(0, 99, 99, 0);
        due("all go", x.drop(0, 2), 100);
        due("none is left", x.tellBook(0, 3), 1);
    }

    private static void fullViewsAndWalk(int order) {
        int first = first(order);
        int last = last(order);
        Bookgrafter x = full(order);
        promise = 19;
        due("all ahead of the last one", x.openView(0, 0, 0, 0, last, 0), 99);
        due("with the last one", x.openView(0, 0, 0, 0, last, 2), 100);
        due("none ahead of the first one", x.openView(0, 0, 0, 0, first, 1), 0);
        due("all behind the first one", x.openView(0, 0, 1, first, 0, 0), 99);
        due("with the first one", x.openView(0, 0, 1, first, 0, 1), 100);
        due("none behind the last one", x.openView(0, 0, 1, last, 0, 2), 0);
        due("from end to end", x.openView(0, 0, 2, first, last, 3), 100);
        due("between the ends", x.openView(0, 0, 2, first, last, 0), 98);
        refused(x, "the last one as low", () -> x.openView(0, 0, 2, last, first, 3));
        promise = 20;
        x.openView(0, 0, 2, first, last, 3);
        due("all", x.narrowView(0, 2, first, last), 100);
        due("the first one", x.narrowView(0, 0, 0, first), 1);
        promise = 21;
        x.openView(0, 0, 2, first, last, 3);
        due("all are built", x.buildFromView(3, 0, 0), 100);
        due("the same", x.sameBooks(3, 0), true);
        promise = 26;
        due("first", x.viewTell(0, 1), first);
        due("last", x.viewTell(0, 2), last);
        due("worths", x.viewTell(0, 3), 4950);
        promise = 25;
        due("near last", x.viewNear(0, last, 1), last * 101);
        due("near first", x.viewNear(0, first, 0), first * 101);
        promise = 28;
        x.startWalk(0);
        int told = 0;
        for (int j = 0; j < 100; j++) {
            told += x.walkNext() == x.keyAt(0, j, false) * 101 ? 1 : 0;
        }
        due("told in order", told, 100);
        due("none is left", x.walkNext(), -1);
        promise = 30;
        due("the last one goes", x.walkTake(), last * 101);
        promise = 24;
        due("first goes", x.viewDrop(0, 0), first * 101);
        x.put(0, 0, 0, 0);
        x.put(0, 99, 99, 0);
        due("last goes", x.viewDrop(0, 1), last * 101);
        due("all go", x.viewDrop(0, 2), 99);
    }

    private static void fullShelves(int order) {
        int first = first(order);
        int last = last(order);
        Bookgrafter x = full(order);
        promise = 32;
        for (int how = 0; how <= 6; how++) {
            due("build of all", x.buildShelf(1, 0, how), 100);
            due("the same", x.sameShelves(1, 0, 0), true);
        }
        promise = 33;
        due("keys of all", x.keysOf(1, 0), 100);
        promise = 35;
        due("none goes", x.shelfBoth(1, 0, 1), 0);
        due("all go", x.shelfBoth(1, 0, 2), 100);
        due("all come", x.shelfBoth(1, 0, 0), 100);
        promise = 37;
        due("all but the last one", x.shelfCut(0, first, last, 4, 2), 99);
        due("the last one is behind it", x.shelfCut(0, last, last, 0, 0), 0);
        due("first of it", x.shelfCut(2, first, last, 2, 0), first);
        due("none ahead of the first one", x.shelfCut(0, first, first, 1, 0), 0);
        promise = 38;
        for (int what : new int[] {0, 1, 4}) {
            due("near first", x.shelfNear(0, first, what), first);
            due("near last", x.shelfNear(0, last, what), last);
        }
        promise = 39;
        due("keys together", x.shelfTell(0, 2), 4950);
        due("first", x.shelfTell(0, 3), first);
        due("last", x.shelfTell(0, 4), last);
        promise = 40;
        x.buildShelf(1, 0, 0);
        x.lay(1, first, 0, 1, false);
        due("no first one", x.sameShelves(1, 0, 1), false);
        x.buildShelf(1, 0, 0);
        x.lay(1, last, 0, 1, false);
        due("no last one", x.sameShelves(1, 0, 0), false);
        promise = 36;
        due("first goes", x.shelfDrop(0, 0), first);
        due("last goes", x.shelfDrop(0, 1), last);
        x.lay(0, 0, 99, 2, true);
        due("all go", x.shelfDrop(0, 2), 100);
        due("none is left", x.shelfTell(0, 0), 0);
    }
}
