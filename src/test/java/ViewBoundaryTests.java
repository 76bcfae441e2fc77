/** The boundary cases that the document names for views: section 3, promises 19 to 26. */
public final class ViewBoundaryTests {
    public static void main(String[] args) {
        views();
        for (int order = 0; order <= 2; order++) {
            openViewKinds(order);
            openViewEnds(order);
            openViewRefused(order);
            narrowView(order);
            narrowViewRefused(order);
            viewDropOfAll(order);
            viewNearOfPart(order);
        }
        openViewArguments();
        narrowViewArguments();
        buildFromView();
        viewPut();
        viewTake();
        viewDrop();
        viewNear();
        viewTell();
        Checks.finish("views are as due at all edges");
    }

    /** WITHIN are just the KEYs ahead of which so many stand, from least to most; found by viewPut(), there or not. */
    private static void within(Bookgrafter x, int view, int order, int least, int most) {
        for (int ahead = 0; ahead < 100; ahead++) {
            int key = Setups.keyInOrder(order, ahead);
            boolean isWithin = least <= ahead && ahead <= most;
            Checks.due("key " + key + " is WITHIN", x.viewPut(view, key, 0) != -9, isWithin);
        }
    }

    private static void views() {
        Checks.says("3: the bounds part all KEYs, there or not");
        within(Checks.object("openView 0 2 2 20 30 3"), 0, 0, 20, 30);
        Checks.says("3: the PAIRs of a VIEW are those of its BOOK, at any time");
        Checks.run("openView 0 2 2 20 30 1", "viewTell 0 0", 0, "put 2 20 0 0", -1, "put 2 29 9 0", -1, "put 2 30 9 0",
                -1,
                "put 2 19 9 0", -1, "viewTell 0 0", 2, "viewTell 0 1", 20, "viewTell 0 2", 29, "viewTell 0 3", 9,
                "take 2 29", 9, "viewTell 0 0", 1, "put 2 20 99 0", 0, "viewTell 0 3", 99, "drop 2 2", 3,
                        "viewTell 0 1", -9);
        Checks.says("3: VIEW 0 is of the BOOK at place 0, VIEW 1 of that at place 1, all KEYs WITHIN");
        within(Checks.object(""), 0, 0, 0, 99);
        within(Checks.object(""), 1, 0, 0, 99);
        Checks.run("put 0 0 1 0; put 1 99 2 0", "viewTell 0 1", 0, "viewTell 0 3", 1, "viewTell 1 1", 99,
                "viewTell 1 3", 2);
        Checks.says("3: both VIEWs may be of one BOOK, each with its bounds");
        Checks.run("fill 3 0 1 100 0; openView 0 3 0 0 50 0; openView 1 3 1 50 0 1", "viewTell 0 0", 50,
                "viewTell 1 0", 50,
                "viewPut 0 50 1", -9, "viewPut 1 50 1", 50, "viewPut 1 49 1", -9);
        Checks.says("3: the BOOK of a VIEW changes by openView() alone");
        Checks.run("put 0 5 5 0; freshBook 0 2; put 0 6 6 0", "viewNear 0 0 1", 505, "narrowView 0 0 0 50", 1,
                "viewNear 0 0 1", 505, "openView 0 0 0 0 99 2", 1, "viewNear 0 0 1", 606);
    }

    private static void opened(int order, String bounds, int least, int most) {
        Checks.says("promise 19: ORDER " + order + ", kind low high ends " + bounds);
        int many = Math.max(0, most - least + 1);
        Checks.run(Setups.fullBook(order), "openView 1 0 " + bounds, many, "viewTell 1 0", many);
        within(Checks.object("freshBook 0 " + order + "; openView 1 0 " + bounds), 1, order, least, most);
    }

    private static void openViewKinds(int order) {
        int first = Setups.keyInOrder(order, 0);
        int middle = Setups.keyInOrder(order, 45);
        int last = Setups.keyInOrder(order, 99);
        for (int ends = 0; ends <= 3; ends++) {
            boolean isHigh = ends >= 2;
            boolean isLow = ends == 1 || ends == 3;
            opened(order, "0 " + last + " " + first + " " + ends, 0, isHigh ? 0 : -1);
            opened(order, "0 " + last + " " + middle + " " + ends, 0, isHigh ? 45 : 44);
            opened(order, "0 " + first + " " + last + " " + ends, 0, isHigh ? 99 : 98);
            opened(order, "1 " + first + " " + last + " " + ends, isLow ? 0 : 1, 99);
            opened(order, "1 " + middle + " " + first + " " + ends, isLow ? 45 : 46, 99);
            opened(order, "1 " + last + " " + first + " " + ends, isLow ? 99 : 100, 99);
            opened(order, "2 " + first + " " + last + " " + ends, isLow ? 0 : 1, isHigh ? 99 : 98);
        }
    }

    private static void openViewEnds(int order) {
        for (int ends = 0; ends <= 3; ends++) {
            for (int ahead : new int[] {0, 45, 99}) {
                int key = Setups.keyInOrder(order, ahead);
                opened(order, "2 " + key + " " + key + " " + ends, ends == 3 ? ahead : 1, ends == 3 ? ahead : 0);
            }
            int low = Setups.keyInOrder(order, 9);
            int high = Setups.keyInOrder(order, 10);
            boolean isLow = ends == 1 || ends == 3;
            opened(order, "2 " + low + " " + high + " " + ends, isLow ? 9 : 10, ends >= 2 ? 10 : 9);
        }
    }

    private static void openViewRefused(int order) {
        Checks.says("promise 19: -9 if kind is 2 and low stands behind high, ORDER " + order);
        String setup = Setups.SOME + "; freshBook 3 " + order + "; fill 3 0 1 100 0";
        for (int ends = 0; ends <= 3; ends++) {
            for (int ahead : new int[] {1, 10, 99}) {
                int low = Setups.keyInOrder(order, ahead);
                Checks.refused(setup, "openView 0 3 2 " + low + " " + Setups.keyInOrder(order, ahead - 1) + " " + ends);
                Checks.refused(setup, "openView 1 3 2 " + low + " " + Setups.keyInOrder(order, 0) + " " + ends);
            }
        }
        Checks.says("promise 19: no -9 if kind is 0 or 1 and low stands behind high, ORDER " + order);
        int last = Setups.keyInOrder(order, 99);
        int first = Setups.keyInOrder(order, 0);
        Checks.run(setup, "openView 0 3 0 " + last + " " + first + " 2", 1,
                "openView 0 3 1 " + last + " " + first + " 1", 1);
    }

    private static void openViewArguments() {
        Checks.says("promise 19: ahead and behind go by the ORDER of that BOOK, not of the VIEW's former one");
        Checks.run("freshBook 2 1; openView 0 2 2 30 20 3", "openView 0 1 2 30 20 3", -9, "openView 0 1 2 20 30 3", 0,
                "openView 0 2 2 20 30 3", -9, "openView 0 2 2 30 20 3", 0);
        Checks.says("promise 19: how many PAIRs: none of an empty BOOK, and what is not WITHIN does not count");
        Checks.idle("", "openView 0 0 1 0 0 1", 0);
        Checks.run("put 0 10 1 0; put 0 20 1 0", "openView 1 0 2 10 20 0", 0, "openView 1 0 2 10 20 3", 2,
                "openView 1 3 2 10 20 3", 0);
        Checks.says("promise 19: it is no BOOK ACT and writes nothing");
        Checks.run("put 0 10 1 0; startWalk 0; walkNext; openView 0 0 0 0 5 0; openView 1 0 2 6 5 0", "house 0", 1,
                "walkTake", 1001);
        Checks.says("promise 19: IndexOutOfBounds goes ahead of IllegalArgument");
        Checks.index(Setups.SOME, "openView 2 0 3 100 100 4");
        Checks.index(Setups.SOME, "openView 0 4 3 100 100 4");
        Checks.index(Setups.SOME, "openView -1 -1 -1 -1 -1 -1");
        Checks.says("promise 19: low or high is no KEY, whatever the kind is");
        for (int kind = 0; kind <= 2; kind++) {
            Checks.argument(Setups.SOME, "openView 0 0 " + kind + " 100 99 3");
            Checks.argument(Setups.SOME, "openView 0 0 " + kind + " -1 99 3");
            Checks.argument(Setups.SOME, "openView 0 0 " + kind + " 0 100 3");
            Checks.argument(Setups.SOME, "openView 0 0 " + kind + " 0 -1 3");
        }
        Checks.says("promise 19: exceptions go ahead of -9");
        Checks.argument(Setups.EMPTY, "openView 0 0 2 50 49 4");
        Checks.argument(Setups.EMPTY, "openView 0 0 2 50 49 -1");
        Checks.argument(Setups.EMPTY, "openView 0 0 2 50 -1 0");
        Checks.index(Setups.EMPTY, "openView 2 0 2 50 49 0");
        Checks.argument(Setups.EMPTY, "openView 0 0 3 0 0 0");
        Checks.argument(Setups.EMPTY, "openView 0 0 -1 0 0 0");
    }

    private static void narrowed(int order, String bounds, int least, int most) {
        Checks.says("promise 20: ORDER " + order + ", kind low high " + bounds);
        String open = "openView 1 0 2 " + Setups.keyInOrder(order, 20) + " " + Setups.keyInOrder(order, 80) + " 3";
        int many = most - least + 1;
        Checks.run(Setups.fullBook(order) + "; " + open, "narrowView 1 " + bounds, many, "viewTell 1 0", many);
        within(Checks.object("freshBook 0 " + order + "; " + open + "; narrowView 1 " + bounds), 1, order, least, most);
    }

    private static void narrowView(int order) {
        int first = Setups.keyInOrder(order, 0);
        int low = Setups.keyInOrder(order, 20);
        int middle = Setups.keyInOrder(order, 50);
        int high = Setups.keyInOrder(order, 80);
        int last = Setups.keyInOrder(order, 99);
        narrowed(order, "0 " + last + " " + high, 20, 80);
        narrowed(order, "0 " + last + " " + middle, 20, 50);
        narrowed(order, "0 " + last + " " + low, 20, 20);
        narrowed(order, "1 " + low + " " + first, 20, 80);
        narrowed(order, "1 " + middle + " " + first, 50, 80);
        narrowed(order, "1 " + high + " " + first, 80, 80);
        narrowed(order, "2 " + low + " " + high, 20, 80);
        narrowed(order, "2 " + middle + " " + middle, 50, 50);
        narrowed(order, "2 " + low + " " + low, 20, 20);
        narrowed(order, "2 " + high + " " + high, 80, 80);
        narrowed(order, "2 " + Setups.keyInOrder(order, 21) + " " + Setups.keyInOrder(order, 79), 21, 79);
    }

    private static void narrowViewRefused(int order) {
        String setup = Setups.fullBook(order) + "; openView 1 0 2 " + Setups.keyInOrder(order,
                20) + " " + Setups.keyInOrder(order, 80) + " 3";
        Checks.says("promise 20: -9 if high is not WITHIN, ORDER " + order);
        for (int ahead : new int[] {0, 19, 81, 99}) {
            Checks.refused(setup, "narrowView 1 0 " + Setups.keyInOrder(order, 50) + " " + Setups.keyInOrder(order,
                    ahead));
        }
        Checks.refused(setup, "narrowView 1 2 " + Setups.keyInOrder(order, 50) + " " + Setups.keyInOrder(order, 81));
        Checks.says("promise 20: -9 if low is not WITHIN, ORDER " + order);
        for (int ahead : new int[] {0, 19, 81, 99}) {
            Checks.refused(setup, "narrowView 1 1 " + Setups.keyInOrder(order, ahead) + " " + Setups.keyInOrder(order,
                    50));
        }
        Checks.refused(setup, "narrowView 1 2 " + Setups.keyInOrder(order, 19) + " " + Setups.keyInOrder(order, 50));
        Checks.says("promise 20: -9 if kind is 2 and low stands behind high, ORDER " + order);
        Checks.refused(setup, "narrowView 1 2 " + Setups.keyInOrder(order, 51) + " " + Setups.keyInOrder(order, 50));
        Checks.refused(setup, "narrowView 1 2 " + Setups.keyInOrder(order, 80) + " " + Setups.keyInOrder(order, 20));
        Checks.says("promise 20: -9 for the end that is not WITHIN, ORDER " + order);
        String open = Setups.fullBook(order) + "; openView 0 0 2 " + Setups.keyInOrder(order,
                20) + " " + Setups.keyInOrder(order, 80) + " 0";
        Checks.refused(open, "narrowView 0 1 " + Setups.keyInOrder(order, 20) + " 0");
        Checks.refused(open, "narrowView 0 0 0 " + Setups.keyInOrder(order, 80));
        Checks.run(open, "narrowView 0 1 " + Setups.keyInOrder(order, 21) + " 0", 59,
                "narrowView 0 0 0 " + Setups.keyInOrder(order, 79), 59);
        Checks.says("promise 20: -9 for all if none is WITHIN, ORDER " + order);
        String none = Setups.fullBook(order) + "; openView 0 0 2 " + Setups.keyInOrder(order,
                20) + " " + Setups.keyInOrder(order, 20) + " 1";
        for (int kind = 0; kind <= 2; kind++) {
            Checks.refused(none, "narrowView 0 " + kind + " " + Setups.keyInOrder(order,
                    20) + " " + Setups.keyInOrder(order, 20));
        }
    }

    private static void narrowViewArguments() {
        Checks.says("promise 20: of the KEYs WITHIN only: a VIEW is never wider again");
        Checks.run("fill 0 0 1 100 0", "narrowView 0 2 20 80", 61, "narrowView 0 1 79 0", 2, "narrowView 0 0 0 79", 1,
                "narrowView 0 0 0 80", -9, "narrowView 0 1 78 0", -9, "narrowView 0 2 79 79", 1, "viewTell 0 1", 79);
        Checks.says("promise 20: low and high need not be there");
        Checks.run("put 0 50 1 0", "narrowView 0 2 0 99", 1, "narrowView 0 2 1 49", 0, "narrowView 0 2 1 49", 0);
        Checks.says("promise 20: all KEYs stay WITHIN from the first to the last one");
        Checks.idle("fill 1 0 1 100 0", "narrowView 1 2 0 99", 100);
        Checks.idle("fill 1 0 1 100 0", "narrowView 1 0 0 99", 100);
        Checks.idle("fill 1 0 1 100 0", "narrowView 1 1 0 0", 100);
        Checks.says("promise 20: of a BOOK that lies nowhere");
        Checks.run("fill 0 0 1 100 0; freshBook 0 1", "narrowView 0 2 20 30", 11, "narrowView 0 2 30 20", -9);
        Checks.says("promise 20: it is no BOOK ACT and writes nothing");
        Checks.run("put 0 10 1 0; startWalk 0; walkNext; narrowView 0 2 5 6; narrowView 0 2 6 5", "house 0", 1,
                "walkTake", 1001);
        Checks.says("promise 20: IndexOutOfBounds goes ahead of IllegalArgument, both ahead of -9");
        Checks.index(Setups.SOME, "narrowView 2 3 100 100");
        Checks.index(Setups.SOME, "narrowView -1 -1 -1 -1");
        Checks.index(Setups.NONE_WITHIN, "narrowView 2 2 1 0");
        Checks.says("promise 20: low or high is no KEY, whatever the kind is, ahead of -9");
        for (int kind = 0; kind <= 2; kind++) {
            Checks.argument(Setups.NONE_WITHIN, "narrowView 0 " + kind + " 100 0");
            Checks.argument(Setups.NONE_WITHIN, "narrowView 0 " + kind + " -1 0");
            Checks.argument(Setups.NONE_WITHIN, "narrowView 0 " + kind + " 0 100");
            Checks.argument(Setups.NONE_WITHIN, "narrowView 0 " + kind + " 0 -1");
        }
        Checks.argument(Setups.NONE_WITHIN, "narrowView 0 3 0 0");
        Checks.argument(Setups.NONE_WITHIN, "narrowView 0 -1 0 0");
    }

    private static void buildFromView() {
        for (int how = 0; how <= 1; how++) {
            Checks.says("promise 21: how " + how + ": none is there, none is WITHIN");
            Checks.bookAct("", "buildFromView 3 0 " + how, 0);
            Checks.run("fill 0 0 1 100 0; openView 0 0 2 5 5 0; put 3 1 1 0", "buildFromView 3 0 " + how, 0,
                    "bookText 3", "{}");
            Checks.says("promise 21: how " + how + ": all, and those WITHIN alone");
            Checks.run("fill 0 0 1 100 0", "buildFromView 3 0 " + how, 100, "sameBooks 0 3", true);
            Checks.run("fill 0 0 1 100 0; openView 1 0 2 0 99 0", "buildFromView 3 1 " + how, 98, "end 3 false false",
                    1,
                    "end 3 true false", 98, "tellBook 0 0", 100);
            Checks.says("promise 21: how " + how + ": of the ORDER of the VIEW's BOOK, which may lie nowhere");
            for (int order = 0; order <= 2; order++) {
                Checks.run(Setups.fullBook(order) + "; openView 0 0 1 " + Setups.keyInOrder(order,
                        1) + " 0 1; freshBook 0 "
                        + (order + 1) % 3, "buildFromView 0 0 " + how, 99, "tellBook 0 1", order, "end 0 false false",
                        Setups.keyInOrder(order, 1), "end 0 true false", Setups.keyInOrder(order, 99), "viewDrop 0 2",
                                99,
                        "tellBook 0 0", 99);
            }
        }
        Checks.says("promise 21: IndexOutOfBounds goes ahead of IllegalArgument");
        Checks.index(Setups.SOME, "buildFromView 4 0 2");
        Checks.index(Setups.SOME, "buildFromView 0 2 2");
        Checks.index(Setups.SOME, "buildFromView -1 -1 -1");
        Checks.argument(Setups.SOME, "buildFromView 0 0 2");
        Checks.argument(Setups.SOME, "buildFromView 3 1 -1");
    }

    private static void viewPut() {
        String setup = "fill 0 10 10 4 1; openView 0 0 2 20 30 ";
        Checks.says("promise 22: -9 if it is not WITHIN, there or not, at the end and next to it");
        for (int key : new int[] {0, 10, 19, 31, 40, 99}) {
            Checks.refused(setup + "3", "viewPut 0 " + key + " 5");
        }
        Checks.refused(setup + "0", "viewPut 0 20 5");
        Checks.refused(setup + "0", "viewPut 0 30 5");
        Checks.says("promise 22: -9 is no BOOK ACT and writes nothing: what is TOLD stays");
        Checks.run(setup + "1; startWalk 0; walkNext; viewPut 0 30 5", "house 0", 1, "house 2", 1, "walkTake", 1001);
        Checks.says("promise 22: WITHIN: the WORTH it had, -1 if it was not there");
        Checks.run(setup + "3", "viewPut 0 20 0", 2, "viewPut 0 20 99", 0, "viewPut 0 30 5", 3, "viewPut 0 21 7", -1,
                "viewPut 0 29 0", -1, "bookText 0", "{10=1, 20=99, 21=7, 29=0, 30=5, 40=4}", "house 0", 6);
        Checks.says("promise 22: a full BOOK and an empty one");
        Checks.run("fill 1 0 1 100 0", "viewPut 1 0 99", 0, "viewPut 1 99 0", 99, "tellBook 1 0", 100);
        Checks.run("", "viewPut 1 0 0", -1, "viewPut 1 99 99", -1, "bookText 1", "{0=0, 99=99}");
        Checks.says("promise 22: exceptions go ahead of -9, IndexOutOfBounds ahead of IllegalArgument");
        Checks.index(Setups.NONE_WITHIN, "viewPut 2 100 100");
        Checks.index(Setups.NONE_WITHIN, "viewPut -1 -1 -1");
        Checks.argument(Setups.NONE_WITHIN, "viewPut 0 100 0");
        Checks.argument(Setups.NONE_WITHIN, "viewPut 0 -1 0");
        Checks.argument(Setups.NONE_WITHIN, "viewPut 0 0 100");
        Checks.argument(Setups.NONE_WITHIN, "viewPut 1 0 -1");
    }

    private static void viewTake() {
        String setup = "fill 0 10 10 4 1; openView 0 0 2 20 30 ";
        Checks.says("promise 23: not WITHIN: -1, and it is a BOOK ACT that tells no -9");
        for (int key : new int[] {0, 10, 19, 31, 40, 99}) {
            Checks.bookAct(setup + "3", "viewTake 0 " + key, -1);
        }
        Checks.bookAct(setup + "0", "viewTake 0 20", -1);
        Checks.bookAct(setup + "0", "viewTake 0 30", -1);
        Checks.says("promise 23: WITHIN, but not there: -1");
        Checks.bookAct(setup + "3", "viewTake 0 25", -1);
        Checks.bookAct("", "viewTake 1 0", -1);
        Checks.says("promise 23: there and WITHIN: the WORTH it had");
        Checks.run(setup + "3", "viewTake 0 20", 2, "viewTake 0 20", -1, "viewTake 0 30", 3, "bookText 0",
                "{10=1, 40=4}",
                "viewTell 0 0", 0);
        Checks.run("put 1 0 0 0; put 1 99 99 0", "viewTake 1 0", 0, "viewTake 1 99", 99, "bookText 1", "{}");
        Checks.says("promise 23: IndexOutOfBounds goes ahead of IllegalArgument");
        Checks.index(Setups.SOME, "viewTake 2 100");
        Checks.index(Setups.SOME, "viewTake -1 -1");
        Checks.argument(Setups.SOME, "viewTake 0 100");
        Checks.argument(Setups.NONE_WITHIN, "viewTake 1 -1");
    }

    private static void viewDrop() {
        Checks.says("promise 24: the VIEW has none: -1, -1 and 0, a BOOK ACT each, whatever its BOOK has");
        int[] due = {-1, -1, 0};
        for (int what = 0; what <= 2; what++) {
            Checks.bookAct("", "viewDrop 0 " + what, due[what]);
            Checks.bookAct("fill 1 0 1 100 0; openView 1 1 2 50 50 2", "viewDrop 1 " + what, due[what]);
            Checks.bookAct("fill 1 0 10 10 0; openView 1 1 2 40 50 0", "viewDrop 1 " + what, due[what]);
        }
        Checks.says("promise 24: one is the first and the last one; what is not WITHIN stays");
        Checks.run("fill 0 0 1 100 0; openView 0 0 2 50 50 3", "viewDrop 0 0", 5050, "viewDrop 0 0", -1,
                "put 0 50 0 0", -1,
                "viewDrop 0 1", 5000, "put 0 50 99 0", -1, "viewDrop 0 2", 1, "viewDrop 0 2", 0, "tellBook 0 0", 99);
        Checks.says("promise 24: the PAIR 0");
        Checks.run("put 0 0 0 0", "viewDrop 0 1", 0, "viewDrop 0 1", -1);
        Checks.says("promise 24: IndexOutOfBounds goes ahead of IllegalArgument");
        Checks.index(Setups.SOME, "viewDrop 2 3");
        Checks.index(Setups.SOME, "viewDrop -1 -1");
        Checks.argument(Setups.SOME, "viewDrop 0 3");
        Checks.argument(Setups.SOME, "viewDrop 1 -1");
    }

    private static void viewDropOfAll(int order) {
        Checks.says("promise 24: first, last and all of a part, ORDER " + order);
        Checks.run(Setups.fullBook(order) + "; openView 1 0 2 " + Setups.keyInOrder(order,
                20) + " " + Setups.keyInOrder(order, 80) + " 0",
                "viewDrop 1 0", Setups.keyInOrder(order, 21) * 101, "viewDrop 1 1", Setups.keyInOrder(order, 79) * 101,
                "viewDrop 1 2", 57, "viewDrop 1 2", 0, "tellBook 0 0", 41, "keyAt 0 20 false", Setups.keyInOrder(order,
                        20),
                "keyAt 0 21 false", Setups.keyInOrder(order, 80));
    }

    private static void viewNear() {
        Checks.says("promise 25: the VIEW has none, whatever its BOOK has");
        for (int what = 0; what <= 4; what++) {
            Checks.idle("", "viewNear 0 0 " + what, -1);
            Checks.idle("", "viewNear 1 99 " + what, -1);
            Checks.idle("fill 0 0 1 100 0; openView 0 0 2 50 50 0", "viewNear 0 50 " + what, -1);
            Checks.idle("fill 0 0 1 100 0; openView 0 0 0 0 0 0", "viewNear 0 0 " + what, -1);
        }
        Checks.says("promise 25: the PAIR 0");
        Checks.idle("put 0 0 0 0", "viewNear 0 0 4", 0);
        Checks.idle("put 0 0 0 0", "viewNear 0 99 0", 0);
        Checks.says("promise 25: IndexOutOfBounds goes ahead of IllegalArgument");
        Checks.index(Setups.SOME, "viewNear 2 100 5");
        Checks.index(Setups.SOME, "viewNear -1 -1 -1");
        Checks.argument(Setups.SOME, "viewNear 0 100 0");
        Checks.argument(Setups.SOME, "viewNear 0 -1 0");
        Checks.argument(Setups.SOME, "viewNear 0 0 5");
        Checks.argument(Setups.SOME, "viewNear 1 0 -1");
    }

    private static void viewNearOfPart(int order) {
        Checks.says("promise 25: of the PAIRs of the VIEW alone; key need not be WITHIN, ORDER " + order);
        String setup = Setups.fullBook(order) + "; openView 0 0 2 " + Setups.keyInOrder(order,
                20) + " " + Setups.keyInOrder(order, 80) + " 2";
        int first = Setups.keyInOrder(order, 21) * 101;
        int last = Setups.keyInOrder(order, 80) * 101;
        int[][] due = {{0, -1, first, -1, first, -1}, {20, -1, first, -1, first, -1},
            {21, first, first, -1, Setups.keyInOrder(order, 22) * 101, first},
            {80, last, last, Setups.keyInOrder(order, 79) * 101, -1, last}, {81, last, -1, last, -1, -1}, {99, last,
                    -1, last, -1, -1}};
        for (int[] row : due) {
            for (int what = 0; what <= 4; what++) {
                Checks.idle(setup, "viewNear 0 " + Setups.keyInOrder(order, row[0]) + " " + what, row[what + 1]);
            }
        }
    }

    private static void viewTell() {
        Checks.says("promise 26: none: 0, -9, -9 and 0");
        String[] setups = {"", "fill 0 0 1 100 99; openView 0 0 2 50 50 0", "fill 0 0 10 10 9; openView 0 0 2 40 50 0",
            "put 0 5 5 0; take 0 5"};
        for (String setup : setups) {
            Checks.idle(setup, "viewTell 0 0", 0);
            Checks.refused(setup, "viewTell 0 1");
            Checks.refused(setup, "viewTell 0 2");
            Checks.idle(setup, "viewTell 0 3", 0);
        }
        Checks.says("promise 26: one is the first and the last one; KEY 0 is told as 0");
        Checks.run("put 0 0 99 0", "viewTell 0 0", 1, "viewTell 0 1", 0, "viewTell 0 2", 0, "viewTell 0 3", 99);
        Checks.says("promise 26: all 100, with the greatest WORTHs");
        for (int order = 0; order <= 2; order++) {
            Checks.run("freshBook 1 " + order + "; openView 1 1 0 0 " + Setups.keyInOrder(order,
                    99) + " 2; fill 1 0 1 100 0",
                    "viewTell 1 0", 100, "viewTell 1 1", Setups.keyInOrder(order, 0), "viewTell 1 2",
                            Setups.keyInOrder(order, 99),
                    "viewTell 1 3", 4950);
        }
        StringBuilder all99 = new StringBuilder("put 0 0 99 0");
        for (int key = 1; key < 100; key++) {
            all99.append("; put 0 ").append(key).append(" 99 0");
        }
        Checks.run(all99.toString(), "viewTell 0 3", 9900);
        Checks.says("promise 26: IndexOutOfBounds goes ahead of IllegalArgument, both ahead of -9");
        Checks.index(Setups.EMPTY, "viewTell 2 4");
        Checks.index(Setups.EMPTY, "viewTell 2 1");
        Checks.index(Setups.EMPTY, "viewTell -1 -1");
        Checks.argument(Setups.EMPTY, "viewTell 0 4");
        Checks.argument(Setups.EMPTY, "viewTell 1 -1");
    }
}
