import java.io.IOException;
import java.lang.reflect.Constructor;
import java.lang.reflect.Method;
import java.lang.reflect.Modifier;
import java.nio.charset.StandardCharsets;
import java.nio.file.Files;
import java.nio.file.Path;
import java.util.ArrayList;
import java.util.List;
import java.util.TreeSet;
import java.util.regex.Matcher;
import java.util.regex.Pattern;

/** The class has just the face that the document prints, and its text keeps to what can be seen of LANGUAGE.md. */
public final class FaceTests {
    private static final String[] BANNED = {"->", "::", "finally", "synchronized", "assert", "volatile", "transient",
        "native", "Object", "System", "Thread", "catch", "try", "Random", "nanoTime", "hashCode", "toString()  {",
        "@Override", "protected", "HashMap", "TreeMap", "String.format", "Exact", "package ", "import java.util.*"};
    private static int wrong = 0;

    private static void due(String what, Object got, Object want) {
        if (!want.equals(got)) {
            wrong++;
            System.out.println(what + ": is " + got + ", due is " + want);
        }
    }

    public static void main(String[] args) throws IOException {
        due("methods", realFace(), documentFace());
        due("modifiers", Bookgrafter.class.getModifiers(), Modifier.PUBLIC | Modifier.FINAL);
        Constructor<?>[] constructors = Bookgrafter.class.getDeclaredConstructors();
        due("constructors", constructors.length, 1);
        due("constructor", constructors[0].toString(), "public Bookgrafter()");
        membersAreHidden();
        textKeepsToTheLanguage();
        System.out.println(wrong == 0 ? "the face is the document's" : wrong + " things are not as due");
        if (wrong != 0) {
            System.exit(1);
        }
    }

    private static TreeSet<String> documentFace() throws IOException {
        String text = Files.readString(Path.of("../shared/DOC.md"), StandardCharsets.UTF_8);
        String face = text.substring(text.indexOf("```java"), text.indexOf("```", text.indexOf("```java") + 7));
        Matcher m = Pattern.compile("public (\\w+) (\\w+)\\(([^)]*)\\)([^;]*);").matcher(face);
        TreeSet<String> all = new TreeSet<>();
        while (m.find()) {
            List<String> types = new ArrayList<>();
            for (String parameter : m.group(3).split(",")) {
                if (!parameter.isBlank()) {
                    types.add(parameter.strip().split(" ")[0]);
                }
            }
            List<String> thrown = new ArrayList<>();
            for (String name : m.group(4).replace("throws", "").split(",")) {
                if (!name.isBlank()) {
                    thrown.add(name.strip());
                }
            }
            all.add("public " + m.group(1) + " " + m.group(2) + types + thrown);
        }
        due("methods in the document", all.size(), 43);
        return all;
    }

    private static TreeSet<String> realFace() {
        TreeSet<String> all = new TreeSet<>();
        for (Method method : Bookgrafter.class.getDeclaredMethods()) {
            if (!Modifier.isPrivate(method.getModifiers())) {
                List<String> types = new ArrayList<>();
                for (Class<?> type : method.getParameterTypes()) {
                    types.add(type.getSimpleName());
                }
                List<String> thrown = new ArrayList<>();
                for (Class<?> type : method.getExceptionTypes()) {
                    thrown.add(type.getSimpleName());
                }
                all.add(Modifier.toString(method.getModifiers()) + " " + method.getReturnType().getSimpleName() + " "
                        + method.getName() + types + thrown);
            }
        }
        return all;
    }

    private static void membersAreHidden() {
        TreeSet<String> faceNames = new TreeSet<>();
        TreeSet<String> ownNames = new TreeSet<>();
        for (Method method : Bookgrafter.class.getDeclaredMethods()) {
            (Modifier.isPrivate(method.getModifiers()) ? ownNames : faceNames).add(method.getName());
        }
        for (Class<?> inside : Bookgrafter.class.getDeclaredClasses()) {
            due(inside + " is static", Modifier.isStatic(inside.getModifiers()), true);
            for (Method method : inside.getDeclaredMethods()) {
                ownNames.add(method.getName());
            }
        }
        ownNames.retainAll(faceNames);
        due("own methods that bear a name of the face", ownNames.toString(), "[]");
        for (java.lang.reflect.Field field : Bookgrafter.class.getDeclaredFields()) {
            due(field + " is private", Modifier.isPrivate(field.getModifiers()), true);
            boolean isOpenStatic = Modifier.isStatic(field.getModifiers()) && !Modifier.isFinal(field.getModifiers());
            due(field + " is static and not final", isOpenStatic, false);
        }
    }

    private static void textKeepsToTheLanguage() throws IOException {
        String text = Files.readString(Path.of("src/main/java/Bookgrafter.java"), StandardCharsets.US_ASCII);
        String code = text.replaceAll("(?s)/\\*.*?\\*/", "").replaceAll("//[^\n]*", "");
        for (String banned : BANNED) {
            due("the text has " + banned, code.contains(banned), false);
        }
        due("public classes", code.split("\\bpublic final class\\b", -1).length - 1, 1);
        Matcher imports = Pattern.compile("import ([\\w.]+);").matcher(code);
        while (imports.find()) {
            due("import " + imports.group(1), imports.group(1).equals("java.util.Arrays"), true);
        }
        Matcher thrown = Pattern.compile("throw new (\\w+)").matcher(code);
        while (thrown.find()) {
            boolean isNamed = thrown.group(1).equals("IndexOutOfBoundsException")
                    || thrown.group(1).equals("IllegalArgumentException");
            due("throw new " + thrown.group(1), isNamed, true);
        }
    }
}
