import java.util.Arrays;

/** What the tests share: scripts of calls on new objects, what they answer, and what they changed. */
final class Checks {
    static final String INDEX = "throws IndexOutOfBoundsException";
    static final String ARGUMENT = "throws IllegalArgumentException";
    private static final int MOST_SHOWN = 40;
    private static final int SHOWN_ASIDE = 100;

    private static String sentence = "";
    private static int wrong = 0;
    private static int made = 0;

    private Checks() {
    }

    /** The sentence of the document that the checks from here on are of. */
    static void says(String where) {
        sentence = where;
    }

    static void due(String what, Object got, Object want) {
        made++;
        String is = String.valueOf(got);
        String due = String.valueOf(want);
        if (!due.equals(is)) {
            wrong++;
            if (wrong <= MOST_SHOWN) {
                int from = firstDifference(is, due);
                System.out.println(sentence + ": " + what + ": is " + part(is, from) + ", due is " + part(due, from));
            }
        }
    }

    private static int firstDifference(String one, String other) {
        int at = 0;
        while (at < one.length() && at < other.length() && one.charAt(at) == other.charAt(at)) {
            at++;
        }
        return at;
    }

    /** The text, or where it is long what stands round the given sign. */
    private static String part(String text, int at) {
        if (text.length() <= 2 * SHOWN_ASIDE) {
            return text;
        }
        return ".." + text.substring(Math.max(0, at - SHOWN_ASIDE), Math.min(text.length(), at + SHOWN_ASIDE)) + "..";
    }

    static void finish(String success) {
        System.out.println(wrong == 0 ? success + " (" + made + " checks)" : wrong + " of " + made + " are not as due");
        if (wrong != 0) {
            System.exit(1);
        }
    }

    static Bookgrafter object(String setup) {
        Bookgrafter x = new Bookgrafter();
        Object last = Calls.run(x, setup);
        if (String.valueOf(last).startsWith("throws")) {
            due(setup, last, "no exception");
        }
        return x;
    }

    /** After the setup each of the calls answers what is due, one after the other: call, answer, call, answer .. */
    static void run(String setup, Object... callsAndAnswers) {
        Bookgrafter x = object(setup);
        for (int i = 0; i + 1 < callsAndAnswers.length; i += 2) {
            due(setup + " | " + callsAndAnswers[i], Calls.run(x, (String) callsAndAnswers[i]), callsAndAnswers[i + 1]);
        }
    }

    /** The call answers so, house() of 0 to 3 grows so, and nothing else changes. */
    static void effect(String setup, String call, Object want, int... growth) {
        Bookgrafter x = object(setup);
        int[] before = house(x);
        String what = setup + " | " + call;
        due(what, Calls.run(x, call), want);
        int[] after = house(x);
        for (int i = 0; i < after.length; i++) {
            after[i] -= before[i];
        }
        due(what + ", what house() tells more", Arrays.toString(after), Arrays.toString(growth));
        due(what + ", all that follows", aftermath(x), aftermath(object(setup)));
    }

    /** Tells what it tells and changes nothing at all. */
    static void idle(String setup, String call, Object want) {
        effect(setup, call, want, 0, 0, 0, 0);
    }

    /** Tells -9, and this changes nothing but house() of 2. */
    static void refused(String setup, String call) {
        effect(setup, call, -9, 0, 0, 1, 0);
    }

    /** A BOOK ACT that changes nothing (where nothing is TOLD in the book that it writes). */
    static void bookAct(String setup, String call, Object want) {
        effect(setup, call, want, 1, 0, 0, 0);
    }

    static void shelfAct(String setup, String call, Object want) {
        effect(setup, call, want, 0, 1, 0, 0);
    }

    static void index(String setup, String call) {
        idle(setup, call, INDEX);
    }

    static void argument(String setup, String call) {
        idle(setup, call, ARGUMENT);
    }

    static int[] house(Bookgrafter x) {
        int[] told = new int[4];
        for (int what = 0; what < told.length; what++) {
            told[what] = x.house(what);
        }
        return told;
    }

    /** The digest without what house() puts into it. */
    static long bareDigest(Bookgrafter x) {
        int[] told = house(x);
        return x.digest() - (((told[0] * 31L + told[1]) * 31L + told[2]) * 31L + told[3]) * 31L;
    }

    /**
     * What all later calls can see, without the counts of house(): the texts, what is TOLD and what the walk
     * tells from there on, and of each VIEW which KEYs are WITHIN and which WORTHs its BOOK has for them, even
     * if it lies nowhere. Takes some 330 calls and changes the object.
     */
    static String aftermath(Bookgrafter x) {
        StringBuilder all = new StringBuilder();
        all.append(bareDigest(x)).append(x.isSound());
        texts(x, all);
        all.append(" told ").append(x.walkSet(37)).append(' ').append(x.walkTake()).append(" walk");
        int pair = x.walkNext();
        for (int j = 0; j < 100 && pair >= 0; j++) {
            all.append(' ').append(pair);
            pair = x.walkNext();
        }
        all.append(' ').append(pair);
        for (int view = 0; view < 2; view++) {
            all.append(" view");
            for (int key = 0; key < 100; key++) {
                all.append(' ').append(x.viewPut(view, key, 60 + view));
            }
        }
        texts(x, all);
        all.append(bareDigest(x));
        return all.toString();
    }

    private static void texts(Bookgrafter x, StringBuilder all) {
        for (int place = 0; place < 4; place++) {
            all.append(x.bookText(place));
        }
    }
}
