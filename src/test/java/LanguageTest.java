import java.io.IOException;
import java.lang.reflect.Constructor;
import java.lang.reflect.Field;
import java.lang.reflect.Method;
import java.lang.reflect.Modifier;
import java.nio.file.Files;
import java.nio.file.Path;
import java.util.Set;
import java.util.TreeSet;
import java.util.regex.Matcher;
import java.util.regex.Pattern;

/** The rules of LANGUAGE.md that can be seen from the class and from its text. */
public final class LanguageTest {
    private static final Set<String> FACE = new TreeSet<>();

    public static void main(String[] args) throws IOException {
        FACE.addAll(FaceTest.methodsOf(Files.readString(Path.of("../shared/DOC.md"))).keySet());
        names();
        classesInside();
        words(withoutTexts(Files.readString(Path.of("src/main/java/AnsweredFates.java"))));
        Check.end();
    }

    private static void holds(String what, boolean so) {
        Check.due(what + " (1)", so ? 1 : 0, 1);
    }

    /** The face itself is looked at by FaceTest. */
    private static void names() {
        for (Method m : AnsweredFates.class.getDeclaredMethods()) {
            holds(m + " has seven parameters at most", m.getParameterCount() <= 7);
            if (Modifier.isPrivate(m.getModifiers())) holds("a private method has a name of its own: " + m, !FACE.contains(m.getName()));
        }
        for (Field f : AnsweredFates.class.getDeclaredFields()) {
            if (Modifier.isStatic(f.getModifiers())) holds(f + " is final", Modifier.isFinal(f.getModifiers()));
        }
    }

    private static void classesInside() {
        Class<?>[] inside = AnsweredFates.class.getDeclaredClasses();
        holds("some twelve classes", inside.length <= 11);
        for (Class<?> c : inside) {
            holds(c + " is static, not public", Modifier.isStatic(c.getModifiers())
                    && !Modifier.isPublic(c.getModifiers()) && !Modifier.isProtected(c.getModifiers()));
            int fields = 0;
            for (Field f : c.getDeclaredFields()) {
                if (!Modifier.isStatic(f.getModifiers())) fields++;
                else holds(f + " is final", Modifier.isFinal(f.getModifiers()));
            }
            holds(c + " has some twenty fields at most", fields <= 20);
            // so no constructor can hand out a part of the object that it makes
            for (Constructor<?> made : c.getDeclaredConstructors()) Check.due(made + " is given", made.getParameterCount(), 0);
            for (Method m : c.getDeclaredMethods()) {
                holds(m + " has seven parameters at most", m.getParameterCount() <= 7);
                holds(m + " has a name of its own", !FACE.contains(m.getName()));
            }
        }
    }

    /** The program's text with comments and texts in quotes taken out. */
    private static String withoutTexts(String program) {
        String bare = program.replaceAll("(?s)/\\*.*?\\*/", "").replaceAll("//[^\n]*", "");
        return bare.replaceAll("\"[^\"\n]*\"", "\"\"").replaceAll("'[^'\n]'", "' '");
    }

    private static void words(String program) {
        String[] ruledOut = {"throw", "throws", "try", "catch", "finally", "synchronized", "assert", "package", "protected", "volatile",
            "Object", "System.out", "Exact", "Random", "Thread", "hashCode", "toString", "instanceof"};
        for (String word : ruledOut) {
            holds("the word '" + word + "' does not stand", !Pattern.compile("\\b" + Pattern.quote(word) + "\\b").matcher(program).find());
        }
        holds("no lambda", !program.contains("->"));
        holds("no method reference", !program.contains("::"));
        Matcher imports = Pattern.compile("import ([^;]*);").matcher(program);
        while (imports.find()) holds("import of " + imports.group(1), imports.group(1).equals("java.util.Arrays"));
        Matcher arrays = Pattern.compile("\\b(Arrays|System|Math|Integer)\\.(\\w+)").matcher(program);
        Set<String> allowed = Set.of("Arrays.fill", "System.arraycopy", "Math.max", "Math.min", "Integer.bitCount");
        while (arrays.find()) holds("of the library: " + arrays.group(), allowed.contains(arrays.group()));
        Matcher methods = Pattern.compile("(?s)\n( {4}| {8})[a-z][^\n;=]*\\) \\{\n.*?\n\\1\\}").matcher(program);
        int count = 0;
        while (methods.find()) {
            count++;
            holds("a method of sixty lines at most: " + methods.group().substring(0, 40), methods.group().lines().count() <= 62);
        }
        holds("methods were seen", count > 60);
    }
}
