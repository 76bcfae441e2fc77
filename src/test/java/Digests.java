import java.math.BigInteger;
import java.util.ArrayList;
import java.util.List;

/** The checksum of promise 44,
        computed from what the other methods tell (some 60 calls and one for each KEY of a SHELF). */
final class Digests {
    private static final BigInteger ALL = BigInteger.ONE.shiftLeft(64);

    private Digests() {
    }

    /** What digest() is due to tell if the WALK is going (1 or 0) and this KEY (or -1) is TOLD. */
    static long of(Bookgrafter x, int going, int told) {
        return ofValues(values(x, going, told));
    }

    /** In whole numbers without an end, of which the last 64 binary digits are taken only then. */
    static BigInteger unbounded(List<Integer> values) {
        BigInteger d = BigInteger.valueOf(17706);
        for (int value : values) {
            d = d.multiply(BigInteger.valueOf(31)).add(BigInteger.valueOf(value));
        }
        return d;
    }

    static long ofValues(List<Integer> values) {
        BigInteger rest = unbounded(values).mod(ALL);
        return rest.testBit(63) ? rest.subtract(ALL).longValueExact() : rest.longValueExact();
    }

    static List<Integer> values(Bookgrafter x, int going, int told) {
        List<Integer> all = new ArrayList<>();
        for (int place = 0; place < 4; place++) {
            for (int what = 0; what <= 2; what++) {
                all.add(x.tellBook(place, what));
            }
            addPairs(all, x.bookText(place));
        }
        for (int view = 0; view < 2; view++) {
            boolean isNone = x.viewTell(view, 0) == 0;
            all.add(x.viewTell(view, 0));
            all.add(isNone ? -1 : x.viewTell(view, 1));
            all.add(isNone ? -1 : x.viewTell(view, 2));
            all.add(x.viewTell(view, 3));
        }
        all.add(going);
        all.add(told);
        for (int shelf = 0; shelf < 3; shelf++) {
            addShelf(all, x, shelf);
        }
        for (int what = 0; what <= 3; what++) {
            all.add(x.house(what));
        }
        all.add(1);
        return all;
    }

    private static void addPairs(List<Integer> all, String text) {
        String inside = text.substring(1, text.length() - 1);
        if (!inside.isEmpty()) {
            for (String pair : inside.split(", ")) {
                int equals = pair.indexOf('=');
                all.add(Integer.parseInt(pair.substring(0,
                        equals)) * 100 + Integer.parseInt(pair.substring(equals + 1)));
            }
        }
    }

    private static void addShelf(List<Integer> all, Bookgrafter x, int shelf) {
        for (int what = 0; what <= 2; what++) {
            all.add(x.shelfTell(shelf, what));
        }
        int many = x.shelfTell(shelf, 0);
        int key = many == 0 ? -1 : x.shelfTell(shelf, 3);
        for (int j = 0; j < many; j++) {
            all.add(key);
            key = x.shelfNear(shelf, key, 3);
        }
    }
}
