/** Scripts that lead a new object into states at the edges of what the document allows. */
final class Setups {
    static final String EMPTY = "";
    /** All KEYs are there, in each ORDER, and WITHIN; the walk told two of them. */
    static final String FULL = "freshBook 1 1; freshBook 2 2; fill 0 0 1 100 0; fill 1 0 1 100 50; fill 2 0 1 100 99; "
            + "fill 3 99 99 100 0; freshShelf 1 1; freshShelf 2 2; lay 0 0 1 100 true; lay 1 0 1 100 true; "
            + "lay 2 0 1 100 true; openView 0 1 1 99 0 1; openView 1 2 0 0 99 2; startWalk 2; walkNext; walkNext";
    /** Some of all, a pair is TOLD in the middle of the walk. */
    static final String SOME = "freshBook 0 2; fill 0 7 37 63 5; freshBook 1 1; fill 1 3 7 40 40; fill 2 95 3 4 97; "
            + "freshShelf 0 2; lay 0 4 9 30 true; freshShelf 1 1; lay 1 50 1 50 true; openView 0 0 2 30 78 1; "
            + "openView 1 1 2 80 20 2; startWalk 0; walkNext; walkNext; walkNext";
    /** Only the KEYs 0 and 99, with such WORTHs; the walk is at its end and its last pair is TOLD. */
    static final String ENDS = "freshBook 1 1; freshBook 2 2; put 0 0 99 0; put 0 99 0 0; put 1 0 0 0; put 1 99 99 0; "
            + "put 2 0 0 0; put 2 99 99 0; put 3 99 0 0; lay 0 0 99 2 true; freshShelf 1 1; lay 1 0 99 2 true; "
            + "freshShelf 2 2; lay 2 99 99 1 true; openView 0 1 0 0 0 2; openView 1 2 1 99 0 1; startWalk 1; "
            + "walkNext; walkNext";
    /** Each VIEW has no KEY WITHIN; the walk is BROKEN. */
    static final String NONE_WITHIN = "fill 0 0 10 10 9; freshBook 1 1; fill 1 0 10 10 9; openView 0 0 2 50 50 0; "
            + "openView 1 1 1 0 0 0; startWalk 0; walkNext; put 0 5 5 0; lay 0 10 10 3 true";
    /** The VIEWs are of books that lie nowhere, and so is the walk, with a pair TOLD. */
    static final String NOWHERE = "freshBook 1 2; fill 0 1 11 9 90; fill 1 1 11 9 80; openView 0 0 2 12 89 3; "
            + "openView 1 1 2 1 88 0; startWalk 1; walkNext; walkNext; freshBook 0 1; buildBook 1 0 6; "
            + "lay 2 99 1 3 true; fill 2 5 5 5 5; knock";
    static final String[] ALL = {EMPTY, FULL, SOME, ENDS, NONE_WITHIN, NOWHERE};

    private Setups() {
    }

    /** At place 0 all KEYs, each with its own number as its WORTH. */
    static String fullBook(int order) {
        return "freshBook 0 " + order + "; fill 0 0 1 100 0";
    }

    /** As shelf 0 all KEYs. */
    static String fullShelf(int order) {
        return "freshShelf 0 " + order + "; lay 0 0 1 100 true";
    }

    /** The KEY ahead of which so many stand, of all 100 KEYs. */
    static int keyInOrder(int order, int ahead) {
        if (order == 0) {
            return ahead;
        }
        return order == 1 ? 99 - ahead : ahead % 10 * 10 + ahead / 10;
    }
}
