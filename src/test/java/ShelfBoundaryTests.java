/** The boundary cases that the document names for shelves: section 5, promises 31 to 40. */
public final class ShelfBoundaryTests {
    /** 10, 20, 30, 40 on shelf 0, none on shelf 1, all on shelf 2. */
    private static final String SOME = "lay 0 10 10 4 true; lay 2 0 1 100 true; ";

    public static void main(String[] args) {
        theShelves();
        freshShelf();
        buildShelf();
        keysOf();
        lay();
        layAway();
        shelfBoth();
        shelfDrop();
        for (int order = 0; order <= 2; order++) {
            cutOfAll(order);
            cutToAnother(order);
            nearOfAll(order);
        }
        shelfCut();
        shelfCutArguments();
        shelfNear();
        shelfTell();
        sameShelves();
        Checks.finish("shelves are as due at all edges");
    }

    private static String keys(Bookgrafter x, int shelf) {
        StringBuilder text = new StringBuilder();
        int many = x.shelfTell(shelf, 0);
        int key = many == 0 ? -1 : x.shelfTell(shelf, 3);
        for (int j = 0; j < many; j++) {
            text.append(j == 0 ? "" : " ").append(key);
            key = x.shelfNear(shelf, key, 3);
        }
        return text.toString();
    }

    /** After the script the last call told so, and the shelf has these KEYs in its ORDER. */
    private static void left(String script, Object told, int shelf, String keys) {
        Bookgrafter x = new Bookgrafter();
        Checks.due(script, Calls.run(x, script), told);
        Checks.due(script + " | shelf " + shelf, keys(x, shelf), keys);
    }

    private static void theShelves() {
        Checks.says("5: there are three SHELVES, each with its own KEYs");
        String script = "lay 0 1 0 1 true; lay 1 2 0 1 true; lay 2 3 0 1 true";
        for (int shelf = 0; shelf < 3; shelf++) {
            left(script, 1, shelf, "" + (shelf + 1));
        }
        Checks.index(SOME, "shelfTell 3 0");
        Checks.index(SOME, "shelfTell -1 0");
        Checks.says("5: none at first, ORDER 0 at first");
        for (int shelf = 0; shelf < 3; shelf++) {
            Checks.idle("", "shelfTell " + shelf + " 0", 0);
            Checks.idle("", "shelfTell " + shelf + " 1", 0);
            left("lay " + shelf + " 99 99 3 true", 3, shelf, "97 98 99");
        }
        Checks.says("5: a KEY that comes and is there already changes nothing");
        Checks.shelfAct("lay 0 5 0 1 true", "lay 0 5 0 100 true", 0);
        Checks.shelfAct(SOME, "shelfBoth 2 0 0", 0);
        Checks.says("5: it keeps its ORDER");
        Checks.run("freshShelf 0 2; lay 0 0 1 100 true; shelfDrop 0 2; shelfBoth 0 1 0; shelfCut 0 0 99 1 0",
                "shelfTell 0 1", 2);
        Checks.says("5: a new SHELF lies in the place of the former one");
        left(SOME + "freshShelf 0 1", 4, 0, "");
        left(SOME + "buildShelf 0 1 0", 0, 0, "");
        left(SOME + "keysOf 0 3", 0, 0, "");
        left(SOME + "shelfCut 1 0 99 4 0", 0, 0, "");
    }

    private static void freshShelf() {
        Checks.says("promise 31: how many the former one had: none, some, all");
        Checks.run(SOME + "house 0", "freshShelf 1 2", 0, "freshShelf 0 2", 4, "freshShelf 2 2", 100, "freshShelf 2 0",
                0,
                "shelfTell 0 1", 2, "shelfTell 2 1", 0, "shelfTell 0 0", 0);
        Checks.says("promise 31: a SHELF ACT, even if an empty one comes for an empty one");
        Checks.shelfAct("", "freshShelf 2 0", 0);
        Checks.says("promise 31: IndexOutOfBounds goes ahead of IllegalArgument");
        Checks.index(SOME, "freshShelf 3 3");
        Checks.index(SOME, "freshShelf -1 -1");
        Checks.argument(SOME, "freshShelf 2 3");
        Checks.argument(SOME, "freshShelf 0 -1");
    }

    private static void buildShelf() {
        for (int how = 0; how <= 6; how++) {
            for (int order = 0; order <= 2; order++) {
                Checks.says("promise 32: how " + how + " of ORDER " + order);
                int built = how < 4 ? order : how - 4;
                Checks.run("freshShelf 1 " + order, "buildShelf 0 1 " + how, 0, "shelfTell 0 0", 0, "shelfTell 0 1",
                        built);
                Checks.run("freshShelf 1 " + order + "; lay 1 99 0 1 true", "buildShelf 0 1 " + how, 1,
                        "shelfTell 0 3", 99);
                Checks.run(Setups.fullShelf(order), "buildShelf 2 0 " + how, 100, "sameShelves 0 2 0", true,
                        "shelfTell 2 3", Setups.keyInOrder(built, 0), "shelfTell 2 4", Setups.keyInOrder(built, 99),
                        "shelfTell 0 1", order);
                Checks.says("promise 32: into itself, how " + how + " of ORDER " + order);
                Checks.run(Setups.fullShelf(order), "buildShelf 0 0 " + how, 100, "shelfTell 0 1", built,
                        "shelfTell 0 3",
                        Setups.keyInOrder(built, 0), "shelfTell 0 4", Setups.keyInOrder(built, 99), "house 1", 3);
            }
        }
        Checks.says("promise 32: neither is changed with the other");
        left(SOME + "buildShelf 1 0 0; shelfDrop 1 2", 4, 0, "10 20 30 40");
        left(SOME + "buildShelf 1 0 0; shelfDrop 0 2", 4, 1, "10 20 30 40");
        Checks.says("promise 32: IndexOutOfBounds goes ahead of IllegalArgument");
        Checks.index(SOME, "buildShelf 3 0 7");
        Checks.index(SOME, "buildShelf 0 3 7");
        Checks.index(SOME, "buildShelf -1 -1 -1");
        Checks.argument(SOME, "buildShelf 0 2 7");
        Checks.argument(SOME, "buildShelf 2 0 -1");
    }

    private static void keysOf() {
        Checks.says("promise 33: of an empty BOOK, of one PAIR, of a full BOOK");
        left(SOME + "keysOf 0 0", 0, 0, "");
        left("put 3 99 0 0; keysOf 2 3", 1, 2, "99");
        Checks.run("fill 3 0 1 100 50; lay 1 0 1 100 true", "keysOf 2 3", 100, "sameShelves 2 1 0", true,
                "shelfTell 2 2", 4950);
        Checks.says("promise 33: of ORDER 0, whatever the ORDERs of the BOOK and the former SHELF are");
        left("freshShelf 0 2; freshBook 0 1; fill 0 9 1 3 5; keysOf 0 0", 3, 0, "9 10 11");
        Checks.run("freshShelf 0 2; freshBook 0 1; keysOf 0 0", "shelfTell 0 1", 0);
        Checks.says("promise 33: it is no BOOK ACT, writes no BOOK, and is a SHELF ACT");
        Checks.run("put 0 1 1 0; startWalk 0; walkNext; keysOf 0 0", "house 0", 1, "house 1", 1, "walkTake", 101);
        Checks.says("promise 33: the SHELF stays when the BOOK changes, and the BOOK when the SHELF does");
        left("put 0 1 1 0; keysOf 0 0; drop 0 2", 1, 0, "1");
        Checks.run("put 0 1 1 0; keysOf 0 0; shelfDrop 0 2", "bookText 0", "{1=1}");
        Checks.says("promise 33: no such shelf, no such place");
        Checks.index(SOME, "keysOf 3 0");
        Checks.index(SOME, "keysOf 0 4");
        Checks.index(SOME, "keysOf -1 0");
        Checks.index(SOME, "keysOf 0 -1");
        Checks.index(SOME, "keysOf 3 4");
        Checks.run(SOME + "house 0", "keysOf 2 3", 0);
    }

    private static void lay() {
        Checks.says("promise 34: many 0: none comes and none goes, and it is a SHELF ACT");
        Checks.shelfAct("", "lay 0 0 0 0 true", 0);
        Checks.shelfAct(SOME, "lay 2 99 99 0 false", 0);
        Checks.says("promise 34: many 1 is j 0 alone");
        left("lay 0 99 99 1 true", 1, 0, "99");
        Checks.says("promise 34: the KEY after 99 is 0");
        left("lay 0 99 1 2 true", 2, 0, "0 99");
        left("lay 0 1 99 3 true", 3, 0, "0 1 99");
        left("lay 0 98 3 4 true", 4, 0, "1 4 7 98");
        Checks.says("promise 34: the KEY goes round many times: 99 + 99 * 99 is 9900");
        Checks.run("", "lay 0 99 99 100 true", 100, "shelfTell 0 2", 4950);
        Checks.run("", "lay 0 0 99 100 true", 100, "shelfTell 0 3", 0, "shelfTell 0 4", 99);
        Checks.says("promise 34: only KEYs that were not there are counted, each once");
        left("lay 0 7 0 100 true", 1, 0, "7");
        left("lay 0 10 50 100 true", 2, 0, "10 60");
        left("lay 0 10 10 4 true; lay 0 30 10 3 true", 1, 0, "10 20 30 40 50");
        Checks.says("promise 34: IndexOutOfBounds goes ahead of IllegalArgument");
        Checks.index(SOME, "lay 3 100 100 101 true");
        Checks.index(SOME, "lay -1 -1 -1 -1 false");
        Checks.says("promise 34: just outside, even if many is 0");
        for (String isAdding : new String[] {"true", "false"}) {
            Checks.argument(SOME, "lay 0 100 0 0 " + isAdding);
            Checks.argument(SOME, "lay 0 -1 0 0 " + isAdding);
            Checks.argument(SOME, "lay 0 0 100 0 " + isAdding);
            Checks.argument(SOME, "lay 0 0 -1 0 " + isAdding);
            Checks.argument(SOME, "lay 0 0 0 101 " + isAdding);
            Checks.argument(SOME, "lay 0 0 0 -1 " + isAdding);
        }
    }

    private static void layAway() {
        Checks.says("promise 34: they go: of an empty SHELF, what is not there");
        Checks.shelfAct("", "lay 0 0 1 100 false", 0);
        Checks.shelfAct(SOME, "lay 0 11 10 9 false", 0);
        Checks.says("promise 34: they go: counted once each, and 0 after 99");
        left(SOME + "lay 0 10 0 100 false", 1, 0, "20 30 40");
        left("lay 0 98 1 4 true; lay 0 99 1 2 false", 2, 0, "1 98");
        Checks.says("promise 34: they go: all");
        left(SOME + "lay 2 99 99 100 false", 100, 2, "");
    }

    private static void shelfBoth() {
        Checks.says("promise 35: an empty and an empty one");
        for (int what = 0; what <= 2; what++) {
            Checks.shelfAct("", "shelfBoth 0 2 " + what, 0);
        }
        Checks.says("promise 35: some, and an empty other one");
        Checks.shelfAct(SOME, "shelfBoth 0 1 0", 0);
        left(SOME + "shelfBoth 0 1 1", 4, 0, "");
        Checks.shelfAct(SOME, "shelfBoth 0 1 2", 0);
        Checks.says("promise 35: none, and another one with some");
        left(SOME + "shelfBoth 1 0 0", 4, 1, "10 20 30 40");
        Checks.shelfAct(SOME, "shelfBoth 1 0 1", 0);
        Checks.shelfAct(SOME, "shelfBoth 1 0 2", 0);
        Checks.says("promise 35: some, and a full other one");
        Checks.run(SOME + "shelfBoth 0 2 0", "shelfTell 0 0", 100);
        left(SOME + "shelfBoth 0 2 0", 96, 1, "");
        Checks.shelfAct(SOME, "shelfBoth 0 2 1", 0);
        left(SOME + "shelfBoth 0 2 2", 4, 0, "");
        Checks.says("promise 35: a full one, and another one with some; that one stays");
        left(SOME + "shelfBoth 2 0 1", 96, 2, "10 20 30 40");
        left(SOME + "shelfBoth 2 0 2", 4, 0, "10 20 30 40");
        Checks.says("promise 35: KEYs 0 and 99, whatever the ORDERs are");
        String ends = "freshShelf 0 1; lay 0 0 1 100 true; freshShelf 1 2; lay 1 0 99 2 true; ";
        left(ends + "shelfBoth 0 1 1", 98, 0, "99 0");
        left(ends + "shelfBoth 0 1 2; lay 0 1 1 98 false", 98, 0, "");
        left(ends + "shelfDrop 0 2; shelfBoth 0 1 0", 2, 0, "99 0");
        Checks.says("promise 35: -9 if shelf is other");
        for (int shelf = 0; shelf < 3; shelf++) {
            for (int what = 0; what <= 2; what++) {
                Checks.refused(SOME, "shelfBoth " + shelf + " " + shelf + " " + what);
            }
        }
        Checks.says("promise 35: exceptions go ahead of -9, IndexOutOfBounds ahead of IllegalArgument");
        Checks.argument(SOME, "shelfBoth 0 0 3");
        Checks.argument(SOME, "shelfBoth 2 2 -1");
        Checks.argument(SOME, "shelfBoth 0 2 3");
        Checks.index(SOME, "shelfBoth 3 3 3");
        Checks.index(SOME, "shelfBoth -1 -1 -1");
        Checks.index(SOME, "shelfBoth 0 3 3");
    }

    private static void shelfDrop() {
        Checks.says("promise 36: of none: -1 for the first and the last one, 0 for all");
        Checks.shelfAct("", "shelfDrop 0 0", -1);
        Checks.shelfAct("", "shelfDrop 1 1", -1);
        Checks.shelfAct("", "shelfDrop 2 2", 0);
        Checks.says("promise 36: one is the first and the last one; KEY 0 is told as 0");
        Checks.run("lay 0 0 0 1 true", "shelfDrop 0 0", 0, "shelfDrop 0 0", -1, "lay 0 0 0 1 true", 1, "shelfDrop 0 1",
                0,
                "shelfDrop 0 1", -1, "lay 0 99 0 1 true", 1, "shelfDrop 0 2", 1);
        for (int order = 0; order <= 2; order++) {
            Checks.says("promise 36: of all 100, ORDER " + order);
            Checks.run(Setups.fullShelf(order), "shelfDrop 0 0", Setups.keyInOrder(order, 0), "shelfDrop 0 1",
                    Setups.keyInOrder(order, 99), "shelfDrop 0 0", Setups.keyInOrder(order, 1), "shelfDrop 0 1",
                    Setups.keyInOrder(order, 98), "shelfDrop 0 2", 96, "shelfDrop 0 2", 0, "house 1", 8);
        }
        Checks.says("promise 36: IndexOutOfBounds goes ahead of IllegalArgument");
        Checks.index(SOME, "shelfDrop 3 3");
        Checks.index(SOME, "shelfDrop -1 -1");
        Checks.argument(SOME, "shelfDrop 2 3");
        Checks.argument(SOME, "shelfDrop 0 -1");
    }

    private static void cutOfAll(int order) {
        String setup = Setups.fullShelf(order);
        String firstToLast = " " + Setups.keyInOrder(order, 0) + " " + Setups.keyInOrder(order, 99) + " ";
        Checks.says("promise 37: low, too, stands in the MIDDLE, high does not, ORDER " + order);
        Checks.idle(setup, "shelfCut 0" + firstToLast + "0 1", 99);
        Checks.run(setup, "shelfCut 0" + firstToLast + "2 1", Setups.keyInOrder(order, 0),
                "shelfCut 0" + firstToLast + "3 1",
                Setups.keyInOrder(order, 98), "shelfCut 0" + firstToLast + "1 1", 97, "shelfTell 0 0", 1,
                        "shelfTell 0 3",
                Setups.keyInOrder(order, 99), "shelfCut 0" + firstToLast + "0 1", 0);
        Checks.says("promise 37: low is high: none, at the first, a middle and the last KEY, ORDER " + order);
        for (int ahead : new int[] {0, 50, 99}) {
            String same = "shelfCut 0 " + Setups.keyInOrder(order, ahead) + " " + Setups.keyInOrder(order, ahead);
            Checks.idle(setup, same + " 0 1", 0);
            Checks.shelfAct(setup, same + " 1 1", 0);
            Checks.shelfAct(setup, same + " 2 1", -1);
            Checks.shelfAct(setup, same + " 3 1", -1);
            Checks.run(setup + "; lay 1 5 0 1 true", same + " 4 1", 0, "shelfTell 1 0", 0, "shelfTell 1 1", order);
        }
        Checks.says("promise 37: high stands next to low: one, ORDER " + order);
        for (int ahead : new int[] {0, 9, 98}) {
            int low = Setups.keyInOrder(order, ahead);
            String one = "shelfCut 0 " + low + " " + Setups.keyInOrder(order, ahead + 1);
            Checks.run(setup, one + " 0 0", 1, one + " 2 0", low, one + " 2 0", -1, one + " 3 0", -1, one + " 1 0", 0,
                    "shelfTell 0 0", 99);
            Checks.run(setup, one + " 3 0", low, one + " 0 0", 0);
            Checks.run(setup, one + " 1 0", 1, one + " 1 0", 0, "shelfTell 0 0", 99);
        }
        Checks.says("promise 37: -9 if low stands behind high, ORDER " + order);
        for (int ahead : new int[] {1, 10, 99}) {
            for (int what = 0; what <= 4; what++) {
                int low = Setups.keyInOrder(order, ahead);
                Checks.refused(setup, "shelfCut 0 " + low + " " + Setups.keyInOrder(order,
                        ahead - 1) + " " + what + " 2");
                Checks.refused(setup, "shelfCut 0 " + low + " " + Setups.keyInOrder(order, 0) + " " + what + " 0");
            }
        }
    }

    private static void cutToAnother(int order) {
        Checks.says("promise 37: a new SHELF of the same ORDER comes to into, ORDER " + order);
        int low = Setups.keyInOrder(order, 20);
        int high = Setups.keyInOrder(order, 80);
        String cut = "shelfCut 0 " + low + " " + high + " 4 ";
        for (int into = 0; into < 3; into++) {
            Checks.run(Setups.fullShelf(order) + "; lay 1 0 1 3 true", cut + into, 60, "shelfTell " + into + " 0", 60,
                    "shelfTell " + into + " 1", order, "shelfTell " + into + " 3", low, "shelfTell " + into + " 4",
                    Setups.keyInOrder(order, 79), "shelfTell 0 0", into == 0 ? 60 : 100, "shelfTell 1 0",
                            into == 1 ? 60 : 3);
        }
    }

    private static void shelfCut() {
        Checks.says("promise 37: of an empty SHELF");
        Checks.idle("", "shelfCut 0 0 99 0 1", 0);
        Checks.shelfAct("", "shelfCut 0 0 99 1 1", 0);
        Checks.shelfAct("", "shelfCut 0 0 99 2 1", -1);
        Checks.shelfAct("", "shelfCut 0 0 99 3 1", -1);
        Checks.shelfAct("", "shelfCut 0 0 99 4 1", 0);
        Checks.says("promise 37: low and high need not be there");
        Checks.idle(SOME, "shelfCut 0 11 40 0 0", 2);
        Checks.idle(SOME, "shelfCut 0 10 41 0 0", 4);
        Checks.idle(SOME, "shelfCut 0 0 10 0 0", 0);
        Checks.idle(SOME, "shelfCut 0 41 99 0 0", 0);
        Checks.says("promise 37: the KEY 0 is told as 0");
        Checks.run("lay 0 0 0 1 true", "shelfCut 0 0 1 3 0", 0, "shelfCut 0 0 1 3 0", -1);
        Checks.says("promise 37: into counts for 4 alone");
        for (int what = 0; what <= 3; what++) {
            left(SOME + "lay 1 5 0 1 true; shelfCut 0 50 60 " + what + " 1; shelfTell 1 0", 1, 1, "5");
            left(SOME + "shelfCut 2 10 10 " + what + " 0; shelfTell 0 0", 4, 0, "10 20 30 40");
        }
        Checks.says("promise 37: into may be shelf");
        left(SOME + "shelfCut 0 20 40 4 0", 2, 0, "20 30");
        left(SOME + "shelfCut 0 20 20 4 0", 0, 0, "");
        Checks.says("promise 37: a SHELF ACT, if what is not 0");
        Checks.run(SOME + "shelfCut 0 0 99 0 0", "house 1", 2, "shelfCut 0 0 99 4 1", 4, "house 1", 3);
    }

    private static void shelfCutArguments() {
        Checks.says("promise 37: IndexOutOfBounds if shelf or into is none, whatever what, ahead of IllegalArgument");
        for (int what = -1; what <= 5; what++) {
            Checks.index(SOME, "shelfCut 3 0 50 " + what + " 0");
            Checks.index(SOME, "shelfCut -1 0 50 " + what + " 0");
            Checks.index(SOME, "shelfCut 0 0 50 " + what + " 3");
            Checks.index(SOME, "shelfCut 0 100 50 " + what + " -1");
        }
        Checks.says("promise 37: low or high is no KEY, whatever what is");
        for (int what = 0; what <= 4; what++) {
            Checks.argument(SOME, "shelfCut 0 100 50 " + what + " 0");
            Checks.argument(SOME, "shelfCut 0 -1 50 " + what + " 0");
            Checks.argument(SOME, "shelfCut 0 50 100 " + what + " 0");
            Checks.argument(SOME, "shelfCut 0 0 -1 " + what + " 0");
        }
        Checks.says("promise 37: exceptions go ahead of -9");
        Checks.argument(SOME, "shelfCut 0 50 49 5 0");
        Checks.argument(SOME, "shelfCut 0 50 49 -1 0");
        Checks.index(SOME, "shelfCut 0 50 49 0 3");
        Checks.index(SOME, "shelfCut 3 50 49 0 0");
    }

    private static void shelfNear() {
        Checks.says("promise 38: of none");
        for (int what = 0; what <= 4; what++) {
            Checks.idle("", "shelfNear 0 0 " + what, -1);
            Checks.idle("", "shelfNear 2 99 " + what, -1);
        }
        Checks.says("promise 38: the KEY 0 is told as 0");
        Checks.run("lay 0 0 0 1 true", "shelfNear 0 0 0", 0, "shelfNear 0 0 1", 0, "shelfNear 0 99 2", 0,
                "shelfNear 0 0 4", 0);
        Checks.says("promise 38: IndexOutOfBounds goes ahead of IllegalArgument");
        Checks.index(SOME, "shelfNear 3 100 5");
        Checks.index(SOME, "shelfNear -1 -1 -1");
        Checks.argument(SOME, "shelfNear 0 100 0");
        Checks.argument(SOME, "shelfNear 0 -1 4");
        Checks.argument(SOME, "shelfNear 2 0 5");
        Checks.argument(SOME, "shelfNear 2 0 -1");
    }

    private static void nearIs(String setup, int key, int... keys) {
        for (int what = 0; what < keys.length; what++) {
            Checks.idle(setup, "shelfNear 0 " + key + " " + what, keys[what]);
        }
    }

    private static void nearOfAll(int order) {
        int first = Setups.keyInOrder(order, 0);
        int last = Setups.keyInOrder(order, 99);
        Checks.says("promise 38: all are there, ORDER " + order);
        nearIs(Setups.fullShelf(order), first, first, first, -1, Setups.keyInOrder(order, 1), first);
        nearIs(Setups.fullShelf(order), last, last, last, Setups.keyInOrder(order, 98), -1, last);
        Checks.says("promise 38: the first KEY alone is there, ORDER " + order);
        String only = "freshShelf 0 " + order + "; lay 0 " + first + " 0 1 true";
        nearIs(only, first, first, first, -1, -1, first);
        nearIs(only, Setups.keyInOrder(order, 1), first, -1, first, -1, -1);
        Checks.says("promise 38: the last KEY alone is there, ORDER " + order);
        only = "freshShelf 0 " + order + "; lay 0 " + last + " 0 1 true";
        nearIs(only, last, last, last, -1, -1, last);
        nearIs(only, Setups.keyInOrder(order, 98), -1, last, -1, last, -1);
    }

    private static void shelfTell() {
        Checks.says("promise 39: none: 0, the ORDER, 0, -9 and -9");
        for (int order = 0; order <= 2; order++) {
            String none = "freshShelf 2 " + order;
            Checks.idle(none, "shelfTell 2 0", 0);
            Checks.idle(none, "shelfTell 2 1", order);
            Checks.idle(none, "shelfTell 2 2", 0);
            Checks.refused(none, "shelfTell 2 3");
            Checks.refused(none, "shelfTell 2 4");
            Checks.says("promise 39: all 100, ORDER " + order);
            Checks.run(Setups.fullShelf(order), "shelfTell 0 0", 100, "shelfTell 0 1", order, "shelfTell 0 2", 4950,
                    "shelfTell 0 3", Setups.keyInOrder(order, 0), "shelfTell 0 4", Setups.keyInOrder(order, 99));
        }
        Checks.says("promise 39: none any more");
        Checks.refused("lay 0 0 0 1 true; shelfDrop 0 0", "shelfTell 0 3");
        Checks.says("promise 39: one is the first and the last one; KEY 0 is told as 0");
        Checks.run("lay 1 0 0 1 true", "shelfTell 1 0", 1, "shelfTell 1 2", 0, "shelfTell 1 3", 0, "shelfTell 1 4", 0);
        Checks.run("lay 1 99 0 1 true", "shelfTell 1 2", 99, "shelfTell 1 3", 99, "shelfTell 1 4", 99);
        Checks.says("promise 39: IndexOutOfBounds goes ahead of IllegalArgument, both ahead of -9");
        Checks.index("", "shelfTell 3 5");
        Checks.index("", "shelfTell -1 3");
        Checks.index("", "shelfTell 3 4");
        Checks.argument("", "shelfTell 0 5");
        Checks.argument("", "shelfTell 2 -1");
    }

    private static void sameShelves() {
        for (int what = 0; what <= 1; what++) {
            Checks.says("promise 40: a SHELF and itself; two empty, two full ones, whatever the ORDERs; what " + what);
            for (int shelf = 0; shelf < 3; shelf++) {
                Checks.idle(SOME, "sameShelves " + shelf + " " + shelf + " " + what, true);
            }
            Checks.idle("freshShelf 0 2; freshShelf 1 1", "sameShelves 0 1 " + what, true);
            Checks.idle(SOME + "freshShelf 1 1; lay 1 0 1 100 true", "sameShelves 1 2 " + what, true);
            Checks.idle(SOME + "freshShelf 1 2; lay 1 0 1 100 true", "sameShelves 2 1 " + what, true);
            Checks.says("promise 40: other KEYs, as many; what " + what);
            Checks.idle("lay 0 0 0 1 true; lay 1 99 0 1 true", "sameShelves 0 1 " + what, false);
            Checks.says("promise 40: the first, the last KEY is missing; what " + what);
            for (int key : new int[] {0, 99}) {
                String missing = SOME + "buildShelf 1 2 5; lay 1 " + key + " 0 1 false";
                Checks.idle(missing, "sameShelves 1 2 " + what, false);
                Checks.idle(missing, "sameShelves 2 1 " + what, what == 1);
            }
            Checks.says("promise 40: an empty and another one; what " + what);
            Checks.idle(SOME, "sameShelves 0 1 " + what, what == 1);
            Checks.idle(SOME, "sameShelves 1 0 " + what, false);
        }
        Checks.says("promise 40: IndexOutOfBounds goes ahead of IllegalArgument");
        Checks.index(SOME, "sameShelves 3 3 2");
        Checks.index(SOME, "sameShelves 0 3 2");
        Checks.index(SOME, "sameShelves -1 0 -1");
        Checks.argument(SOME, "sameShelves 2 2 2");
        Checks.argument(SOME, "sameShelves 0 2 -1");
    }
}
