import java.util.ArrayList;
import java.util.Arrays;
import java.util.List;

/**
 * Each method with each argument at its least and its greatest value, next to them, and just outside, all
 * with all, in each state of Setups: what is outside throws the exception that the document names first
 * and changes nothing; what is inside answers as the model does and leaves the object as the model is.
 */
public final class CornerTests {
    private static final int CALLS_OF_AN_OBJECT = 100;

    public static void main(String[] args) {
        for (String method : Calls.FACE) {
            String kinds = Calls.kinds(method);
            List<int[]> outside = new ArrayList<>();
            addAll(outside, kinds, new int[kinds.length()], 0, true);
            outside.removeIf(given -> dueException(kinds, given) == null);
            addFarOutside(outside, kinds);
            List<int[]> inside = new ArrayList<>();
            addAll(inside, kinds, new int[kinds.length()], 0, false);
            for (String setup : Setups.ALL) {
                allThrow(method, setup, outside);
                allAgree(method, setup, inside);
            }
        }
        Checks.finish("all arguments at their ends are met as due");
    }

    /** The values of one argument: with isWide also those just outside, otherwise those at and next to the ends. */
    private static List<Integer> values(char kind, boolean isWide) {
        int least = Calls.least(kind);
        int most = Calls.greatest(kind);
        List<Integer> values = new ArrayList<>();
        int[] candidates = isWide ? new int[] {least - 1, least, most, most + 1}
                : new int[] {least, least + 1, most - 1, most};
        for (int value : candidates) {
            boolean isInRange = value >= least && value <= most;
            if (!values.contains(value) && (isInRange || (isWide && kind != 'y'))) {
                values.add(value);
            }
        }
        return values;
    }

    private static void addAll(List<int[]> all, String kinds, int[] given, int from, boolean isWide) {
        if (from == kinds.length()) {
            all.add(given.clone());
            return;
        }
        for (int value : values(kinds.charAt(from), isWide)) {
            given[from] = value;
            addAll(all, kinds, given, from + 1, isWide);
        }
    }

    private static void addFarOutside(List<int[]> all, String kinds) {
        for (int i = 0; i < kinds.length(); i++) {
            if (kinds.charAt(i) != 'y') {
                for (int far : new int[] {Integer.MIN_VALUE, Integer.MAX_VALUE, -2, 256, 65536}) {
                    int[] given = new int[kinds.length()];
                    given[i] = far;
                    all.add(given);
                }
            }
        }
    }

    /** All that an index says goes ahead of all that an argument says; null if nothing is outside. */
    private static String dueException(String kinds, int[] given) {
        String due = null;
        for (int i = 0; i < given.length; i++) {
            char kind = kinds.charAt(i);
            if (given[i] < Calls.least(kind) || given[i] > Calls.greatest(kind)) {
                if (Calls.isIndex(kind)) {
                    return Checks.INDEX;
                }
                due = Checks.ARGUMENT;
            }
        }
        return due;
    }

    private static void allThrow(String method, String setup, List<int[]> outside) {
        Checks.says(method + ", outside, after " + setup);
        String untouched = Checks.aftermath(Checks.object(setup));
        int from = 0;
        while (from < outside.size()) {
            int to = Math.min(from + CALLS_OF_AN_OBJECT, outside.size());
            Bookgrafter x = Checks.object(setup);
            String house = Arrays.toString(Checks.house(x));
            for (int[] given : outside.subList(from, to)) {
                Checks.due(Arrays.toString(given), Calls.answer(x, Calls.name(method), given),
                        dueException(Calls.kinds(method), given));
            }
            Checks.due("house() after calls that threw", Arrays.toString(Checks.house(x)), house);
            Checks.due("all after calls that threw", Checks.aftermath(x), untouched);
            from = to;
        }
    }

    private static void allAgree(String method, String setup, List<int[]> inside) {
        Checks.says(method + ", inside, after " + setup);
        for (int[] given : inside) {
            Bookgrafter x = Checks.object(setup);
            Model model = new Model();
            Calls.run(model, setup);
            String what = Arrays.toString(given);
            Checks.due(what, Calls.answer(x, Calls.name(method), given), Calls.answer(model, Calls.name(method),
                    given));
            Checks.due(what + ", digest", x.digest(), model.digest());
            Checks.due(what + ", walkNext", x.walkNext(), model.walkNext());
            Checks.due(what + ", walkTake", x.walkTake(), model.walkTake());
        }
    }
}
