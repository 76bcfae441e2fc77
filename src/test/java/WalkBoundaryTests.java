/** The boundary cases that the document names for the walk: section 4, promises 27 to 30. */
public final class WalkBoundaryTests {
    /** 10=1, 20=2, 30=3 at place 0, 20 is TOLD; VIEW 0 is of it, VIEW 1 has no KEY of it WITHIN. */
    private static final String TOLD = "fill 0 10 10 3 1; openView 1 0 2 50 50 0; fill 1 10 10 3 7; fill 2 40 1 2 4; "
            + "startWalk 0; walkNext; walkNext; ";
    /** Each BOOK ACT that writes, so that nothing changes. */
    private static final String[] IDLE_WRITERS = {"fill 0 0 0 0 0", "fill 0 50 1 5 -1", "fill 0 20 0 1 2", "pour 0 3",
        "keep 0 1 true", "keep 0 3 false", "put 0 20 2 0", "put 0 10 99 1", "put 0 50 0 2", "exchange 0 10 9 5",
        "exchange 0 20 9 -1", "exchange 0 50 0 -1", "exchange 0 20 2 2", "take 0 99", "splitBook 0 31 3",
                "viewPut 0 10 1",
        "viewTake 0 50", "viewTake 1 20", "viewDrop 1 0", "viewDrop 1 1", "viewDrop 1 2"};
    /** Each way to give a KEY that is there another WORTH: 30 has 9 then. */
    private static final String[] WORTH_WRITERS = {"fill 0 30 0 1 9", "pour 0 1", "put 0 30 9 0", "put 0 30 9 2",
        "exchange 0 30 3 9", "viewPut 0 30 9"};
    /** Each way in which a KEY is added or goes. */
    private static final String[] BREAKERS = {"fill 0 99 1 1 0", "fill 0 0 1 1 0", "fill 0 30 1 1 -1",
            "fill 0 10 1 1 -1",
        "pour 0 2", "keep 0 3 true", "keep 0 1 false", "put 0 99 0 0", "put 0 0 0 1", "put 0 21 0 0",
                "exchange 0 10 1 -1",
        "exchange 0 20 2 -1", "take 0 10", "take 0 20", "take 0 30", "drop 0 0", "drop 0 1", "drop 0 2",
                "splitBook 0 30 3",
        "splitBook 0 0 3", "viewPut 0 99 0", "viewPut 0 0 0", "viewTake 0 10", "viewTake 0 20", "viewDrop 0 0",
        "viewDrop 0 1", "viewDrop 0 2"};
    /** What no other call does: BOOK ACTS at that place or next to it, refused and throwing calls, and all the rest. */
    private static final String[] NO_WRITERS = {"freshBook 0 0", "buildBook 0 0 0", "buildBook 0 1 1",
            "buildBook 1 0 4",
        "splitBook 1 0 0", "splitBook 2 0 3", "splitBook 0 0 0", "pour 1 0", "pour 0 0", "keep 1 0 true",
                "keep 0 0 true",
        "fill 1 10 10 3 0", "put 1 99 9 0", "take 2 40", "drop 1 2", "exchange 1 10 7 -1", "buildFromView 0 0 0",
        "buildFromView 3 0 1", "openView 0 0 0 0 0 0", "openView 0 0 2 9 8 3", "openView 0 1 1 0 0 1",
                "narrowView 0 0 0 10",
        "narrowView 1 0 0 0", "viewPut 1 20 9", "walkSet 100", "walkSet -1", "put 0 100 0 0", "put 0 0 100 0",
                "put 0 0 0 3",
        "take 0 100", "fill 0 100 0 0 0", "fill 0 0 0 0 -2", "drop 0 3", "exchange 0 0 0 -2", "viewPut 0 0 100",
        "viewTake 0 100", "viewDrop 0 3", "splitBook 0 100 3", "splitBook 0 0 4", "pour 0 4", "keep 0 4 true",
        "keysOf 0 0", "freshShelf 0 1", "lay 0 0 1 9 true", "shelfDrop 0 2", "has 0 true 20", "near 0 20 4 true",
        "end 0 true true", "end 3 true false", "keyAt 0 0 true", "tellBook 0 0", "bookText 0", "sameBooks 0 1",
        "viewNear 0 20 4", "viewTell 0 0", "viewTell 1 1", "house 0", "knock", "isSound", "digest"};

    public static void main(String[] args) {
        writersThatChangeNothing();
        writersOfWorths();
        breakers();
        whatDoesNotWrite();
        noWalk();
        startWalk();
        walkNext();
        for (int order = 0; order <= 2; order++) {
            walkThroughAll(order);
            walkThroughEnds(order);
        }
        walkSet();
        walkTake();
        Checks.finish("the walk is as due at all edges");
    }

    private static void writersThatChangeNothing() {
        for (String writer : IDLE_WRITERS) {
            Checks.says("4: written, even if nothing changed, by " + writer);
            Checks.run(TOLD + writer, "walkSet 5", -9, "walkTake", -9, "bookText 0", "{10=1, 20=2, 30=3}", "house 2",
                    2);
            Checks.says("4: not BROKEN, and what is told next is TOLD, after " + writer);
            Checks.run(TOLD + writer, "walkNext", 3003, "walkSet 5", 3, "walkNext", -1, "walkTake", 3005, "walkNext",
                    -1);
            Checks.says("4: nothing is TOLD, and the WALK is going, after " + writer);
            digestHas(TOLD + writer, 1, -1);
        }
        Checks.says("4: drop of an empty BOOK leaves the WALK going");
        for (int what = 0; what <= 2; what++) {
            Checks.run("startWalk 0; drop 0 " + what, "walkNext", -1, "viewDrop 0 " + what, what == 2 ? 0 : -1,
                    "walkNext", -1);
        }
    }

    private static void writersOfWorths() {
        for (String writer : WORTH_WRITERS) {
            Checks.says("4: a WORTH changes: nothing is TOLD then, but the WALK goes on, " + writer);
            Checks.run(TOLD + writer, "walkTake", -9, "walkNext", 3009, "walkTake", 3009);
        }
        Checks.says("4: the WORTHs that they have when they are told");
        Checks.run("fill 0 10 10 3 1; startWalk 0; put 0 10 99 0", "walkNext", 1099, "put 0 20 0 0", 2, "put 0 10 5 0",
                99,
                "walkNext", 2000);
    }

    private static void breakers() {
        for (String breaker : BREAKERS) {
            Checks.says("4: BROKEN by " + breaker);
            Checks.refused(TOLD + breaker, "walkNext");
            Checks.refused(TOLD + breaker, "walkSet 0");
            Checks.refused(TOLD + breaker, "walkTake");
            digestHas(TOLD + breaker, 0, -1);
            Checks.says("4: BROKEN for good by " + breaker);
            String repaired = TOLD + breaker
                    + "; fill 0 10 10 3 1; viewPut 0 10 1; viewPut 0 20 2; viewPut 0 30 3; keep 0 1 true";
            Checks.refused(repaired, "walkNext");
            Checks.says("4: a WALK that begins then is not BROKEN, " + breaker);
            Checks.run(repaired, "startWalk 0", 3, "walkNext", 1001, "walkTake", 1001);
        }
        Checks.says("4: before it began nothing can break it");
        Checks.run("put 0 1 1 0; take 0 1; put 0 2 2 0; startWalk 0", "walkNext", 202);
        Checks.says("4: what another BOOK gets or loses does not break it");
        Checks.run("put 0 1 1 0; put 1 1 1 0; startWalk 0; put 1 2 2 0; take 1 1; drop 1 2", "walkNext", 101);
    }

    private static void whatDoesNotWrite() {
        for (String call : NO_WRITERS) {
            Checks.says("4: no other call writes or breaks: " + call);
            Bookgrafter x = Checks.object(TOLD + "house 0");
            Calls.run(x, call);
            Checks.due("what is TOLD", Calls.run(x, "walkSet 5"), 2);
            Checks.due("the WALK goes on", Calls.run(x, "walkNext"), 3003);
            Checks.due("to the end", Calls.run(x, "walkNext; walkTake"), 3003);
        }
        Checks.says("4: neither does walkSet or walkTake");
        Checks.run(TOLD + "walkSet 9", "walkSet 8", 9, "walkTake", 2008, "walkNext", 3003, "walkTake", 3003,
                "walkNext", -1);
    }

    /** What digest() has of the walk after the setup: whether it is going (1 or 0), and the KEY that is TOLD. */
    private static void digestHas(String setup, int going, int told) {
        Bookgrafter x = Checks.object(setup);
        Checks.due(setup + " | digest of a walk that is going " + going + ", told " + told, x.digest(),
                Digests.of(x, going, told));
    }

    private static void noWalk() {
        Checks.says("4: what is TOLD, in the middle and at the end of the walk");
        digestHas(TOLD + "house 0", 1, 20);
        digestHas(TOLD + "walkNext; walkNext", 1, 30);
        digestHas(TOLD + "walkSet 7", 1, 20);
        digestHas("put 0 0 0 0; startWalk 0; walkNext", 1, 0);
        digestHas("put 0 99 0 0; startWalk 0; walkNext; walkNext", 1, 99);
        Checks.says("4: at first the WALK is on no BOOK");
        Checks.refused("fill 0 0 1 100 0", "walkNext");
        Checks.refused("fill 0 0 1 100 0", "walkSet 0");
        Checks.refused("fill 0 0 1 100 0", "walkSet 99");
        Checks.refused("fill 0 0 1 100 0", "walkTake");
        digestHas("fill 0 0 1 100 0", 0, -1);
    }

    private static void startWalk() {
        Checks.says("promise 27: how many PAIRs: none, one, all");
        Checks.run("put 1 0 0 0; freshBook 2 2; fill 2 0 1 100 0", "startWalk 0", 0, "startWalk 1", 1, "startWalk 2",
                100,
                "startWalk 3", 0, "house 0", 3);
        Checks.says("promise 27: nothing is TOLD");
        Checks.refused("put 0 1 1 0; startWalk 0", "walkSet 0");
        Checks.refused("put 0 1 1 0; startWalk 0", "walkTake");
        digestHas("put 0 1 1 0; startWalk 0", 1, -1);
        Checks.says("promise 27: it ends the former one, with what was TOLD, on the same BOOK or another one");
        Checks.run(TOLD + "startWalk 0", "walkTake", -9, "walkNext", 1001);
        Checks.run(TOLD + "startWalk 1", "walkTake", -9, "walkNext", 1007, "walkTake", 1007, "tellBook 0 0", 3);
        Checks.says("promise 27: a new one after one that came to its end, or is BROKEN");
        Checks.run("put 0 1 1 0; startWalk 0; walkNext; walkNext; startWalk 0", "walkNext", 101);
        Checks.run("put 0 1 1 0; startWalk 0; put 0 2 2 0; walkNext; startWalk 0", "walkNext", 101, "walkNext", 202);
        Checks.says("promise 27: it begins on the BOOK that lies at the place now");
        Checks.run(TOLD + "freshBook 0 0; startWalk 0", "walkNext", -1);
        Checks.says("promise 27: it writes nothing and is no BOOK ACT");
        Checks.idle("put 0 1 1 0; startWalk 0", "startWalk 0", 1);
        Checks.says("promise 27: no such place, and the former WALK stays");
        for (String setup : Setups.ALL) {
            Checks.index(setup, "startWalk 4");
            Checks.index(setup, "startWalk -1");
        }
    }

    private static void walkNext() {
        Checks.says("promise 28: -9 if the WALK is not going");
        Checks.refused("", "walkNext");
        Checks.refused("startWalk 0; put 0 0 0 0", "walkNext");
        Checks.refused("put 0 0 0 0; startWalk 0; walkNext; take 0 0", "walkNext");
        Checks.says("promise 28: none is there: -1, as often as it is asked, and no -9");
        Checks.idle("startWalk 0", "walkNext", -1);
        Checks.idle("startWalk 0; walkNext; walkNext", "walkNext", -1);
        Checks.says("promise 28: no more: -1, and what is TOLD stays");
        Checks.idle("put 0 99 9 0; startWalk 0; walkNext", "walkNext", -1);
        Checks.run("put 0 99 9 0; startWalk 0; walkNext; walkNext; walkNext", "walkSet 8", 9, "walkNext", -1,
                "walkTake", 9908,
                "walkNext", -1, "walkTake", -9);
        Checks.says("promise 28: no more, and nothing is TOLD: it stays so");
        Checks.run("put 0 99 9 0; startWalk 0; walkNext; put 0 99 9 0", "walkNext", -1, "walkTake", -9, "walkSet 0",
                -9);
        Checks.says("promise 28: the PAIR 0 is told as 0");
        Checks.run("put 0 0 0 0; startWalk 0", "walkNext", 0, "walkNext", -1, "walkTake", 0);
        Checks.says("promise 28: behind all that this WALK told, those that walkTake() took, too");
        Checks.run("fill 0 0 1 3 0; startWalk 0; walkNext; walkTake", "walkNext", 101, "walkTake", 101, "walkNext", 202,
                "walkTake", 202, "walkNext", -1);
        Checks.says("promise 28: it writes nothing and is no BOOK ACT");
        Checks.run("put 0 0 0 0; startWalk 0; walkNext; walkNext", "house 0", 1, "house 2", 0);
    }

    private static void walkThroughAll(int order) {
        Checks.says("promise 28: all 100 in ORDER " + order);
        Bookgrafter x = Checks.object(Setups.fullBook(order) + "; startWalk 0");
        for (int ahead = 0; ahead < 100; ahead++) {
            Checks.due("told as number " + ahead, x.walkNext(), Setups.keyInOrder(order, ahead) * 101);
        }
        Checks.due("none is left", x.walkNext(), -1);
        Checks.says("promise 30: all 100 go, ORDER " + order);
        x = Checks.object(Setups.fullBook(order) + "; startWalk 0");
        for (int ahead = 0; ahead < 100; ahead++) {
            x.walkNext();
            Checks.due("taken as number " + ahead, x.walkTake(), Setups.keyInOrder(order, ahead) * 101);
        }
        Checks.due("none is left", x.bookText(0), "{}");
        Checks.due("the WALK goes on", x.walkNext(), -1);
    }

    private static void walkThroughEnds(int order) {
        int first = Setups.keyInOrder(order, 0);
        int last = Setups.keyInOrder(order, 99);
        Checks.says("promise 28: the first and the last KEY alone, ORDER " + order);
        Checks.run("freshBook 2 " + order + "; put 2 " + last + " 0 0; put 2 " + first + " 99 0; startWalk 2",
                "walkNext",
                first * 100 + 99, "walkNext", last * 100, "walkNext", -1, "walkSet 99", 0, "walkTake", last * 100 + 99);
    }

    private static void walkSet() {
        Checks.says("promise 29: -9 if nothing is TOLD: no WALK, none told yet, ended, taken, BROKEN");
        Checks.refused("", "walkSet 0");
        Checks.refused("put 0 1 1 0; startWalk 0", "walkSet 99");
        Checks.refused("startWalk 0; walkNext", "walkSet 99");
        Checks.refused(TOLD + "put 0 20 2 0", "walkSet 5");
        Checks.refused(TOLD + "walkTake", "walkSet 5");
        Checks.refused(TOLD + "put 0 99 2 0", "walkSet 5");
        Checks.says("promise 29: the WORTH it had, and it stays TOLD; a BOOK ACT each time");
        Checks.run(TOLD + "house 0", "walkSet 0", 2, "walkSet 99", 0, "walkSet 99", 99, "house 0", 6, "bookText 0",
                "{10=1, 20=99, 30=3}", "walkNext", 3003);
        Checks.says("promise 29: the same WORTH is a BOOK ACT that changes nothing");
        Checks.bookAct(TOLD + "house 0", "walkSet 2", 2);
        Checks.says("promise 29: on a BOOK that lies nowhere");
        Checks.run(TOLD + "freshBook 0 0", "walkSet 9", 2, "viewNear 0 20 4", 2009, "bookText 0", "{}");
        Checks.says("promise 29: no WORTH: the exception goes ahead of -9, and what is TOLD stays");
        for (String setup : new String[] {"", "put 0 1 1 0; startWalk 0", TOLD + "house 0", TOLD + "take 0 20"}) {
            Checks.argument(setup, "walkSet 100");
            Checks.argument(setup, "walkSet -1");
        }
    }

    private static void walkTake() {
        Checks.says("promise 30: -9 if nothing is TOLD: no WALK, none told yet, ended, taken, BROKEN");
        Checks.refused("", "walkTake");
        Checks.refused("put 0 1 1 0; startWalk 0", "walkTake");
        Checks.refused("startWalk 0; walkNext", "walkTake");
        Checks.refused(TOLD + "put 0 20 2 0", "walkTake");
        Checks.refused(TOLD + "walkTake", "walkTake");
        Checks.refused(TOLD + "take 0 10", "walkTake");
        Checks.says("promise 30: the PAIR goes, nothing is TOLD then, and the WALK goes on");
        Checks.run(TOLD + "house 0", "walkTake", 2002, "walkTake", -9, "walkSet 1", -9, "house 0", 4, "bookText 0",
                "{10=1, 30=3}", "walkNext", 3003);
        digestHas(TOLD + "walkTake", 1, -1);
        Checks.says("promise 30: it has the WORTH that it has now");
        Checks.run(TOLD + "walkSet 0", "walkTake", 2000);
        Checks.says("promise 30: the only PAIR, and the PAIR 0");
        Checks.run("put 0 0 0 0; startWalk 0; walkNext", "walkTake", 0, "tellBook 0 3", 1, "walkNext", -1, "walkTake",
                -9);
        Checks.says("promise 30: the WALK goes on, but it can be BROKEN still");
        Checks.run(TOLD + "walkTake; put 0 20 2 0", "walkNext", -9);
        Checks.run(TOLD + "walkTake; take 0 20", "walkNext", 3003);
        Checks.says("promise 30: on a BOOK that lies nowhere");
        Checks.run(TOLD + "buildBook 0 0 0", "walkTake", 2002, "tellBook 0 0", 3, "viewTell 0 0", 2, "walkNext", 3003);
    }
}
