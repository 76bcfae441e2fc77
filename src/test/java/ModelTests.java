import java.util.ArrayList;
import java.util.Arrays;
import java.util.List;

/**
 * Long runs of calls, made by a fixed rule, on the class and on the model of the document. Every answer
 * and, after every call, every digest must agree.
 */
public final class ModelTests {
    private static final int RUNS = 1500;
    private static final int CALLS = 250;
    private static final int FIRST_OF_WALK = 25;

    private static long seed = 20261118L;
    private static boolean isWrong = false;

    private static int below(int most) {
        seed = seed * 6364136223846793005L + 1442695040888963407L;
        return (int) ((seed >>> 33) % most);
    }

    public static void main(String[] args) {
        Checks.says("a run on the class and on the model");
        int[] answered = new int[Calls.FACE.length];
        for (int run = 0; run < RUNS && !isWrong; run++) {
            oneRun(run, answered);
        }
        for (int op = 0; op < answered.length; op++) {
            Checks.due(Calls.FACE[op] + " was answered", answered[op] > 0, true);
        }
        Checks.finish("the class agrees with the model");
    }

    private static void oneRun(int run, int[] answered) {
        Bookgrafter real = new Bookgrafter();
        Model model = new Model();
        List<String> told = new ArrayList<>();
        boolean isWalking = run % 3 == 0;
        for (int call = 0; call < CALLS && !isWrong; call++) {
            int op = isWalking && below(3) == 0 ? FIRST_OF_WALK + below(4) : below(Calls.FACE.length);
            String name = Calls.name(Calls.FACE[op]);
            int[] given = arguments(Calls.kinds(Calls.FACE[op]));
            Object got = Calls.answer(real, name, given);
            Object want = Calls.answer(model, name, given);
            told.add(name + Arrays.toString(given) + " -> " + got);
            answered[op] += String.valueOf(got).startsWith("throws") ? 0 : 1;
            isWrong = !got.equals(want) || real.digest() != model.digest();
            if (isWrong) {
                told.forEach(System.out::println);
                Checks.due("run " + run, got, want);
                Checks.due("run " + run + ", digest", real.digest(), model.digest());
            }
        }
    }

    private static int[] arguments(String kinds) {
        int[] given = new int[kinds.length()];
        for (int i = 0; i < given.length; i++) {
            given[i] = kinds.charAt(i) == 'y' ? below(2) : argument(kinds.charAt(i));
        }
        return given;
    }

    private static int argument(char kind) {
        int least = Calls.least(kind);
        int most = Calls.greatest(kind);
        int luck = below(120);
        if (luck == 0) {
            return least - 1;
        }
        if (luck == 1) {
            return most + 1;
        }
        if (luck == 2) {
            return below(2) == 0 ? Integer.MIN_VALUE : Integer.MAX_VALUE;
        }
        if (luck < 8) {
            return least;
        }
        if (luck < 12) {
            return most;
        }
        if (kind == 'n' && below(2) == 0) {
            return -1;
        }
        if (kind == 'm' && below(2) == 0) {
            return below(8);
        }
        if (kind == 'w' && below(2) == 0) {
            return below(3);
        }
        return below(most + 1);
    }
}
