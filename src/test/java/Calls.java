import java.lang.reflect.InvocationTargetException;
import java.lang.reflect.Method;
import java.util.HashMap;
import java.util.Map;

/** Calls told as text, such as "fill 0 10 10 3 1; end 0 false true", made on the class or on its model. */
final class Calls {
    /**
     * The face: each method and its arguments. b place, s shelf, v view (throw an index exception);
     * k key, w worth, n worth or -1, t a step, m how many up to 100, z 0 to 99, a digit: 0 to it; y a boolean.
     */
    static final String[] FACE = {"freshBook b2", "buildBook bb6", "splitBook bkb", "fill bktmn", "pour bb",
        "keep bby", "put bkw2", "exchange bkwn", "take bk", "drop b2", "has byz", "near bk4y", "end byy",
        "keyAt bzy", "tellBook b3", "bookText b", "sameBooks bb", "openView vb2kk3", "narrowView v2kk",
        "buildFromView bv1", "viewPut vkw", "viewTake vk", "viewDrop v2", "viewNear vk4", "viewTell v3",
        "startWalk b", "walkNext ", "walkSet w", "walkTake ", "freshShelf s2", "buildShelf ss6", "keysOf sb",
        "lay sktmy", "shelfBoth ss2", "shelfDrop s2", "shelfCut skk4s", "shelfNear sk4", "shelfTell s4",
        "sameShelves ss1", "house 3", "knock ", "isSound ", "digest "};

    private static final Map<Class<?>, Map<String, Method>> METHODS = new HashMap<>();

    private Calls() {
    }

    static String name(String method) {
        return method.substring(0, method.indexOf(' '));
    }

    static String kinds(String method) {
        return method.substring(method.indexOf(' ') + 1);
    }

    static boolean isIndex(char kind) {
        return "bsv".indexOf(kind) >= 0;
    }

    static int least(char kind) {
        return kind == 'n' ? -1 : 0;
    }

    static int greatest(char kind) {
        switch (kind) {
            case 'b':
                return 3;
            case 's':
                return 2;
            case 'v':
            case 'y':
                return 1;
            case 'm':
                return 100;
            case 'k':
            case 'w':
            case 'n':
            case 't':
            case 'z':
                return 99;
            default:
                return kind - '0';
        }
    }

    /** Makes the calls of a script, parted by "; ", up to one that throws, and returns the last one's answer. */
    static Object run(Object target, String script) {
        Object answer = null;
        if (!script.isEmpty()) {
            for (String call : script.split("; ")) {
                answer = one(target, call);
                if (String.valueOf(answer).startsWith("throws")) {
                    return answer;
                }
            }
        }
        return answer;
    }

    private static Object one(Object target, String call) {
        String[] words = call.split(" ");
        int[] arguments = new int[words.length - 1];
        for (int i = 0; i < arguments.length; i++) {
            String word = words[i + 1];
            boolean isBoolean = word.equals("true") || word.equals("false");
            arguments[i] = isBoolean ? (word.equals("true") ? 1 : 0) : Integer.parseInt(word);
        }
        return answer(target, words[0], arguments);
    }

    /** The answer of a call, or "throws" with the exception's name; 1 stands for true. */
    static Object answer(Object target, String name, int... arguments) {
        Method method = method(target.getClass(), name);
        Class<?>[] types = method.getParameterTypes();
        if (types.length != arguments.length) {
            throw new IllegalStateException(name + " has " + types.length + " arguments");
        }
        Object[] given = new Object[arguments.length];
        for (int i = 0; i < given.length; i++) {
            given[i] = types[i] == boolean.class ? (Object) (arguments[i] == 1) : (Object) arguments[i];
        }
        try {
            return method.invoke(target, given);
        } catch (InvocationTargetException e) {
            return "throws " + e.getCause().getClass().getName().replace("java.lang.", "");
        } catch (IllegalAccessException e) {
            throw new IllegalStateException(e);
        }
    }

    private static Method method(Class<?> type, String name) {
        Map<String, Method> methods = METHODS.computeIfAbsent(type, t -> new HashMap<>());
        if (methods.isEmpty()) {
            for (Method method : type.getDeclaredMethods()) {
                methods.put(method.getName(), method);
            }
        }
        Method method = methods.get(name);
        if (method == null) {
            throw new IllegalStateException("no method " + name);
        }
        return method;
    }
}
