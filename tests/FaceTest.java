import java.lang.reflect.Constructor;
import java.lang.reflect.Field;
import java.lang.reflect.Method;
import java.lang.reflect.Modifier;
import java.nio.file.Files;
import java.nio.file.Path;
import java.util.Arrays;
import java.util.HashMap;
import java.util.Map;
import java.util.Set;
import java.util.TreeSet;
import java.util.regex.Matcher;
import java.util.regex.Pattern;

/** The public face, and what reflection and a look at the source can tell of LANGUAGE.md. */
public final class FaceTest {
    private static final String SOURCE = "src/main/java/ChairRegents.java";
    private static final Set<String> METHODS = new TreeSet<>(Arrays.asList(
        "int type(int)", "int clear()", "int spa()", "int chair(int,int)", "int pusher(int)", "int cell(int)",
        "int now(int)", "int tuesday()", "int changes(int,int)", "int sets(int,int)", "int greases(int,int)",
        "int undo()", "int time(int)", "int place(int)", "int alone(int)", "int king(int,int)", "int fair(int)",
        "int odds(int,int,int)", "int times(int,int)", "int forget()", "int rate(int,int)", "int keep(int)",
        "int back(int)", "int count(int)", "long trace()"));
    private static final Set<String> CONSTANTS = new TreeSet<>(Arrays.asList("BAD", "STATE", "FULL", "NONE", "NO"));
    private static final Set<String> LIBRARY = new TreeSet<>(Arrays.asList("Math.max", "Math.min", "System.arraycopy",
        "Deeds.TUESDAY", "Deeds.CHANGE", "Deeds.SET", "Deeds.GREASE"));
    private static final int DEEPEST = 8;
    private static int wrong = 0;

    private static void check(boolean holds, String what) {
        if (holds) return;
        wrong++;
        System.out.println("not so: " + what);
    }

    public static void main(String[] args) throws Exception {
        face();
        for (Class<?> inside : ChairRegents.class.getDeclaredClasses()) insideClass(inside);
        check(ChairRegents.class.getDeclaredClasses().length < 12, "twelve classes at most");
        String code = withoutCommentsAndTexts(Files.readString(Path.of(SOURCE)));
        source(code);
        madeOfNothingHandedOut(code);
        depthOfCalls(code);
        readme(Files.readString(Path.of("README.md")));
        System.out.println(wrong == 0 ? "the face and the language are as told" : wrong + " rules are broken");
        if (wrong != 0) System.exit(1);
    }

    private static void face() {
        Class<?> face = ChairRegents.class;
        check(Modifier.isPublic(face.getModifiers()) && Modifier.isFinal(face.getModifiers()), "public and final");
        Set<String> methods = new TreeSet<>();
        for (Method m : face.getDeclaredMethods()) {
            if (Modifier.isPublic(m.getModifiers())) methods.add(signature(m));
            else check(Modifier.isPrivate(m.getModifiers()), "private: " + m);
            if (Modifier.isPublic(m.getModifiers())) check(!Modifier.isStatic(m.getModifiers()), "of an object: " + m);
        }
        check(methods.equals(METHODS), "the methods are those of the document: " + methods);
        Set<String> constants = new TreeSet<>();
        for (Field f : face.getDeclaredFields()) {
            if (Modifier.isPublic(f.getModifiers())) constants.add(f.getName());
            else check(Modifier.isPrivate(f.getModifiers()), "private: " + f);
        }
        check(constants.equals(CONSTANTS), "the constants are those of the document: " + constants);
        Constructor<?>[] made = face.getDeclaredConstructors();
        check(made.length == 1 && made[0].getParameterCount() == 0, "one constructor");
        check(Modifier.isPublic(made[0].getModifiers()), "a public constructor");
        staticFields(face);
        noPublicName(face);
    }

    private static String signature(Method m) {
        StringBuilder line = new StringBuilder(m.getReturnType().getName()).append(' ').append(m.getName()).append('(');
        for (int i = 0; i < m.getParameterCount(); i++) {
            if (i > 0) line.append(',');
            line.append(m.getParameterTypes()[i].getName());
        }
        return line.append(')').toString();
    }

    private static void insideClass(Class<?> inside) {
        int mods = inside.getModifiers();
        check(Modifier.isStatic(mods), "static: " + inside);
        check(!Modifier.isPublic(mods) && !Modifier.isProtected(mods), "private or package-visible: " + inside);
        check(Arrays.stream(inside.getDeclaredFields()).filter(f -> !Modifier.isStatic(f.getModifiers())).count() <= 20,
            "twenty fields at most: " + inside);
        staticFields(inside);
        noPublicName(inside);
    }

    private static void staticFields(Class<?> c) {
        for (Field f : c.getDeclaredFields()) {
            if (Modifier.isStatic(f.getModifiers())) check(Modifier.isFinal(f.getModifiers()), "final: " + f);
        }
    }

    private static void noPublicName(Class<?> c) {
        for (Method m : c.getDeclaredMethods()) {
            check(m.getParameterCount() <= 7, "seven parameters at most: " + m);
            if (!Modifier.isPrivate(m.getModifiers())) continue;
            for (String open : METHODS) {
                check(!open.contains(" " + m.getName() + "("), "no public name: " + m);
            }
        }
    }

    private static String withoutCommentsAndTexts(String source) {
        return source.replaceAll("(?s)/\\*.*?\\*/", "").replaceAll("//[^\n]*", "")
            .replaceAll("\"[^\"\n]*\"", "\"\"").replaceAll("'(\\\\.|[^'\\\\])'", "' '");
    }

    private static void source(String code) {
        String[] banned = {"throws?", "try", "catch", "synchronized", "assert", "package", "import", "native",
            "var", "volatile", "hashCode", "toString", "System\\.(?!arraycopy)\\w+", "\\w*Exact"};
        for (String word : banned) {
            check(!Pattern.compile("\\b" + word + "\\b").matcher(code).find(), "nothing of '" + word + "' in the source");
        }
        Matcher outside = Pattern.compile("\\b[A-Z]\\w*[.][a-zA-Z]\\w*").matcher(code);
        while (outside.find()) check(LIBRARY.contains(outside.group()), "of the library, or its own: " + outside.group());
        check(!code.contains("->") && !code.contains("::"), "no lambda, no method reference");
        check(code.chars().allMatch(sign -> sign < 128), "plain signs alone");
        String[] lines = code.split("\n");
        int start = 0;
        for (int i = 0; i < lines.length; i++) {
            boolean isField = lines[i].matches(" +(private )?final .*");
            check(!lines[i].matches(".*\\bnew\\b.*") || isField, "objects are made by constructors alone: " + lines[i]);
            if (lines[i].matches(" +[^=;]*\\) \\{") && !lines[i].matches(" +(\\} )?(if|for|while|else|switch)\\b.*")) start = i;
            if (lines[i].matches("( {4}| {8})\\}")) check(i - start <= 60, "sixty lines at most: " + lines[start]);
        }
        check(!Pattern.compile("for \\(;;\\)|while \\(true\\)").matcher(code).find(), "every loop has an end");
    }

    /** A constructor that is given nothing can be handed no part of the object that makes it. */
    private static void madeOfNothingHandedOut(String code) {
        Matcher made = Pattern.compile("\\bnew \\w+[^;]*;").matcher(code);
        while (made.find()) {
            check(made.group().matches("new \\w+\\(\\);|new (int|boolean)\\[[A-Z_]+\\];"), "made of nothing: " + made.group());
        }
    }

    /** By names alone: methods of one name count as one, which can only make the calls look deeper. */
    private static void depthOfCalls(String code) {
        Map<String, String> bodies = new HashMap<>();
        Matcher head = Pattern.compile("(?m)^ +(?:\\w+ )*(\\w+)\\([^()]*\\) \\{$").matcher(code);
        while (head.find()) {
            String indent = head.group().replaceAll("\\S.*", "");
            int end = code.indexOf("\n" + indent + "}", head.end() - 1);
            bodies.merge(head.group(1), code.substring(head.end(), end < 0 ? code.length() : end), String::concat);
        }
        for (String open : METHODS) {
            String name = open.replaceAll(".* |\\(.*", "");
            check(bodies.containsKey(name), "found in the source: " + name);
            int depth = depthOf(name, bodies, 1);
            check(depth <= DEEPEST, name + "() goes at most eight deep, not " + depth);
        }
    }

    private static int depthOf(String name, Map<String, String> bodies, int depth) {
        if (depth > DEEPEST) return depth;
        int deepest = depth;
        Matcher call = Pattern.compile("\\b(\\w+)\\(").matcher(bodies.get(name));
        while (call.find()) {
            if (bodies.containsKey(call.group(1))) deepest = Math.max(deepest, depthOf(call.group(1), bodies, depth + 1));
            else if (call.group(1).matches("max|min|arraycopy")) deepest = Math.max(deepest, depth + 1);
        }
        return deepest;
    }

    private static void readme(String text) {
        for (String open : METHODS) {
            String name = open.replaceAll(".* |\\(.*", "");
            check(Pattern.compile("(?m)^\\| `" + name + "\\(").matcher(text).find(), "README.md tells of " + name + "()");
        }
        for (String constant : CONSTANTS) check(text.contains("`" + constant + "`"), "README.md tells of " + constant);
        check(text.contains("`bash .ci/run`"), "README.md tells how the tests are run");
    }
}
