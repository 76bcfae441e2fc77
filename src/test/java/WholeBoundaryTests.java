import java.math.BigInteger;
import java.util.List;

/** The boundary cases that the document names for acts and -9, and for the whole: section 6, promises 41 to 44. */
public final class WholeBoundaryTests {
    /** A call of each BOOK ACT that changes nothing of a new object but the count. */
    private static final String[] IDLE_BOOK_ACTS = {"freshBook 3 0", "buildBook 3 2 0", "splitBook 0 0 3",
            "fill 0 0 0 0 0",
        "pour 0 1", "keep 0 1 true", "put 0 0 0 2", "exchange 0 0 0 0", "take 0 0", "drop 0 0", "drop 0 1", "drop 0 2",
        "buildFromView 3 0 0", "viewTake 0 0", "viewDrop 0 0", "viewDrop 0 1", "viewDrop 0 2"};
    private static final String[] IDLE_SHELF_ACTS = {"freshShelf 0 0", "buildShelf 0 1 0", "keysOf 0 0",
            "lay 0 0 0 0 true",
        "lay 0 0 1 100 false", "shelfBoth 0 1 0", "shelfBoth 0 1 1", "shelfBoth 0 1 2", "shelfDrop 0 0",
                "shelfDrop 0 1",
        "shelfDrop 0 2", "shelfCut 0 0 0 1 0", "shelfCut 0 0 0 2 0", "shelfCut 0 0 0 3 0", "shelfCut 0 0 0 4 0"};
    private static final String[] NO_ACTS = {"has 0 true 0", "near 0 0 0 true", "end 0 false true", "keyAt 0 0 true",
        "tellBook 0 2", "bookText 0", "sameBooks 0 1", "openView 0 0 1 0 0 1", "narrowView 0 2 0 99", "viewNear 0 0 0",
        "viewTell 0 0", "viewTell 0 3", "shelfCut 0 0 99 0 0", "shelfNear 0 0 0", "shelfTell 0 0", "sameShelves 0 1 0",
        "house 0", "house 3", "isSound", "digest"};
    /** Each way to be told -9 on a new object. */
    private static final String[] REFUSED = {"splitBook 0 0 0", "pour 3 3", "keep 1 1 true", "end 0 false false",
        "end 0 true false", "openView 0 0 2 1 0 3", "narrowView 0 2 1 0", "viewTell 0 1", "viewTell 1 2", "walkNext",
        "walkSet 0", "walkTake", "shelfBoth 0 0 0", "shelfCut 0 1 0 0 0", "shelfCut 0 1 0 4 1", "shelfTell 0 3",
        "shelfTell 2 4"};

    public static void main(String[] args) {
        acts();
        refusals();
        house();
        knock();
        isSound();
        digestOfNewObject();
        digestOfSetups();
        digestOfEachNumber();
        Checks.finish("the whole is as due at all edges");
    }

    private static Object answerOf(String call) {
        return Calls.run(new Bookgrafter(), call);
    }

    private static void acts() {
        for (String act : IDLE_BOOK_ACTS) {
            Checks.says("6: a BOOK ACT, even if nothing changes by it: " + act);
            Checks.bookAct("", act, answerOf(act));
            Checks.run(act + "; " + act, "house 0", 2, "house 1", 0, "house 2", 0, "house 3", 0);
        }
        for (String act : IDLE_SHELF_ACTS) {
            Checks.says("6: a SHELF ACT, even if nothing changes by it: " + act);
            Checks.shelfAct("", act, answerOf(act));
            Checks.run(act + "; " + act, "house 0", 0, "house 1", 2, "house 2", 0, "house 3", 0);
        }
        for (String call : NO_ACTS) {
            Checks.says("6: no act: " + call);
            Checks.idle("", call, answerOf(call));
        }
        Checks.says("6: what changes something is one act, too, and not one for each PAIR");
        Checks.run("fill 0 0 1 100 0; pour 1 0; keep 0 2 true; buildBook 2 1 1; splitBook 2 50 3; viewDrop 1 2",
                "house 0", 6);
        Checks.run("put 0 1 1 0; startWalk 0; walkNext; walkSet 2; walkTake; viewPut 0 1 1", "house 0", 4);
        Checks.run("lay 0 0 1 100 true; shelfBoth 1 0 0; shelfCut 1 0 50 4 2; shelfCut 1 0 50 1 0", "house 1", 4);
    }

    private static void refusals() {
        for (String call : REFUSED) {
            Checks.says("6: -9 is one more, no act, and nothing else changes: " + call);
            Checks.refused("", call);
            Checks.run(call + "; " + call, "house 2", 2, "house 0", 0, "house 1", 0);
        }
        Checks.says("6: only -9 counts, not -1");
        Checks.run("end 0 false true; near 0 0 0 true; keyAt 0 0 true; viewNear 0 0 0; shelfNear 0 0 0; drop 0 0; "
                + "take 0 0; viewTake 0 0; shelfDrop 0 0; startWalk 0; walkNext", "house 2", 0);
    }

    private static void house() {
        Checks.says("promise 41: each count by itself");
        Checks.run("take 0 0; walkNext; walkNext; freshShelf 0 0; freshShelf 0 0; freshShelf 0 0; knock; knock; knock; "
                + "knock",
                "house 0", 1, "house 1", 3, "house 2", 2, "house 3", 4);
        Checks.says("promise 41: what is not 0 to 3");
        for (String setup : Setups.ALL) {
            Checks.argument(setup, "house 4");
            Checks.argument(setup, "house -1");
        }
    }

    private static void knock() {
        Checks.says("promise 42: with this one");
        Checks.run("", "knock", 1, "knock", 2, "house 3", 2, "knock", 3);
        for (String setup : Setups.ALL) {
            Bookgrafter x = Checks.object(setup);
            Checks.effect(setup, "knock", x.house(3) + 1, 0, 0, 0, 1);
        }
        Checks.says("promise 42: up to the last call of an object");
        Bookgrafter x = new Bookgrafter();
        for (int call = 1; call <= 512; call++) {
            Checks.due("knock", x.knock(), call);
        }
    }

    private static void isSound() {
        for (String setup : Setups.ALL) {
            Checks.says("promise 43: sound, and no -9 is told by it");
            Checks.idle(setup, "isSound", true);
            Checks.says("promise 44: no -9 is told by it, and nothing changes");
            Checks.idle(setup, "digest", Checks.object(setup).digest());
        }
    }

    private static void digestOfNewObject() {
        Checks.says("promise 44: a new object, with -1 for the KEYs that are not there");
        int[] values = {0, 0, 0, 0, 0, 0, 0, 0, 0, 0, 0, 0, 0, -1, -1, 0, 0, -1, -1, 0, 0, -1, 0, 0, 0, 0, 0, 0, 0, 0,
                0,
            0, 0, 0, 0, 1};
        BigInteger d = BigInteger.valueOf(17706);
        for (int value : values) {
            d = d.multiply(BigInteger.valueOf(31)).add(BigInteger.valueOf(value));
        }
        Checks.due("more than 64 binary digits", d.bitLength() > 64, true);
        Checks.due("digest", new Bookgrafter().digest(), d.longValue());
    }

    private static void digestOfSetups() {
        int[] going = {0, 1, 1, 1, 0, 1};
        int[] told = {-1, 10, 40, 0, -1, 12};
        boolean isNegativeSeen = false;
        boolean isPositiveSeen = false;
        for (int i = 0; i < Setups.ALL.length; i++) {
            Checks.says("promise 44: after " + Setups.ALL[i]);
            Bookgrafter x = Checks.object(Setups.ALL[i]);
            long digest = x.digest();
            List<Integer> values = Digests.values(x, going[i], told[i]);
            Checks.due("digest", digest, Digests.ofValues(values));
            Checks.due("it wraps around", Digests.unbounded(values).bitLength() > 64, true);
            isNegativeSeen |= digest < 0;
            isPositiveSeen |= digest >= 0;
        }
        Checks.says("promise 44: digests on both sides of the wrap-around");
        Checks.due("less than 0", isNegativeSeen, true);
        Checks.due("not less than 0", isPositiveSeen, true);
    }

    /** From the back: isSound(), house() of 3 to 0, and what stands ahead of them, each with its own power of 31. */
    private static void digestOfEachNumber() {
        Checks.says("promise 44: what each number adds");
        long power = 31;
        for (String call : new String[] {"knock", "walkNext", "lay 0 0 0 0 true", "take 0 0"}) {
            Bookgrafter x = new Bookgrafter();
            long before = x.digest();
            Calls.run(x, call);
            Checks.due(call, x.digest() - before, power);
            power *= 31;
        }
        Checks.says("promise 44: the KEY 0 of a BOOK and of a SHELF is a number, too");
        Bookgrafter x = Checks.object("put 2 0 0 0; lay 1 0 0 1 true");
        Checks.due("digest", x.digest(), Digests.of(x, 0, -1));
        Checks.says("promise 44: a walk that is going, with none told and with KEY 0");
        x = Checks.object("put 2 0 0 0; startWalk 2");
        Checks.due("none told", x.digest(), Digests.of(x, 1, -1));
        x.walkNext();
        Checks.due("KEY 0", x.digest(), Digests.of(x, 1, 0));
    }
}
