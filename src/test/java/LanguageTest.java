import java.io.IOException;
import java.lang.reflect.Constructor;
import java.lang.reflect.Field;
import java.lang.reflect.Method;
import java.lang.reflect.Modifier;
import java.nio.file.Files;
import java.nio.file.Path;
import java.util.Set;
import java.util.TreeSet;
import java.util.regex.Matcher;
import java.util.regex.Pattern;

/** The rules of LANGUAGE.md that can be seen from the class and from its text. */
public final class LanguageTest {
    private static final String FACE = "feed/1 hills/0 fault/0 told/1 person/2 village/2 tell/2 answer/2 year/1 wit/2 bear/2 drift/1 "
            + "undo/0 down/3 best/1 match/1 shares/2 dry/2 returned/1 write/2 tear/0 judge/0 seed/1 keep/1 goBack/1";

    public static void main(String[] args) throws IOException {
        face();
        classesInside();
        words(withoutTexts(Files.readString(Path.of("src/main/java/AnsweredFates.java"))));
        Check.end();
    }

    private static void holds(String what, boolean so) {
        Check.due(what + " (1)", so ? 1 : 0, 1);
    }

    private static void face() {
        Class<?> face = AnsweredFates.class;
        holds("the class is public and final", Modifier.isPublic(face.getModifiers()) && Modifier.isFinal(face.getModifiers()));
        holds("it is in no package", face.getPackageName().isEmpty());
        Set<String> due = new TreeSet<>(Set.of(FACE.split(" ")));
        Set<String> there = new TreeSet<>();
        Set<String> names = new TreeSet<>();
        for (Method m : face.getDeclaredMethods()) {
            if (Modifier.isPrivate(m.getModifiers())) continue;
            holds(m.getName() + " is public and answers an int", Modifier.isPublic(m.getModifiers())
                    && !Modifier.isStatic(m.getModifiers()) && m.getReturnType() == int.class);
            there.add(m.getName() + "/" + m.getParameterCount());
            names.add(m.getName());
        }
        holds("the methods are those of the document: " + there, there.equals(due));
        for (Method m : face.getDeclaredMethods()) {
            if (Modifier.isPrivate(m.getModifiers())) holds("a private method has a name of its own: " + m, !names.contains(m.getName()));
        }
        Constructor<?>[] made = face.getDeclaredConstructors();
        holds("one public constructor", made.length == 1 && Modifier.isPublic(made[0].getModifiers()) && made[0].getParameterCount() == 0);
        int constants = 0;
        for (Field f : face.getDeclaredFields()) {
            if (!Modifier.isPublic(f.getModifiers())) holds(f + " is private", Modifier.isPrivate(f.getModifiers()));
            else constants++;
        }
        Check.due("constants", constants, 5);
    }

    private static void classesInside() {
        Class<?>[] inside = AnsweredFates.class.getDeclaredClasses();
        holds("some twelve classes", inside.length <= 11);
        for (Class<?> c : inside) {
            holds(c + " is static, not public", Modifier.isStatic(c.getModifiers())
                    && !Modifier.isPublic(c.getModifiers()) && !Modifier.isProtected(c.getModifiers()));
            int fields = 0;
            for (Field f : c.getDeclaredFields()) {
                if (!Modifier.isStatic(f.getModifiers())) fields++;
                else holds(f + " is final", Modifier.isFinal(f.getModifiers()));
            }
            holds(c + " has some twenty fields at most", fields <= 20);
            for (Method m : c.getDeclaredMethods()) {
                holds(m + " has seven parameters at most", m.getParameterCount() <= 7);
                holds(m + " has a name of its own", !(" " + FACE).contains(" " + m.getName() + "/"));
            }
        }
    }

    /** The program's text with comments and texts in quotes taken out. */
    private static String withoutTexts(String program) {
        String bare = program.replaceAll("(?s)/\\*.*?\\*/", "").replaceAll("//[^\n]*", "");
        return bare.replaceAll("\"[^\"\n]*\"", "\"\"").replaceAll("'[^'\n]'", "' '");
    }

    private static void words(String program) {
        String[] ruledOut = {"throw", "throws", "try", "catch", "finally", "synchronized", "assert", "package", "protected", "volatile",
            "Object", "System.out", "Exact", "Random", "Thread", "hashCode", "toString", "instanceof"};
        for (String word : ruledOut) {
            holds("the word '" + word + "' does not stand", !Pattern.compile("\\b" + Pattern.quote(word) + "\\b").matcher(program).find());
        }
        holds("no lambda", !program.contains("->"));
        holds("no method reference", !program.contains("::"));
        Matcher imports = Pattern.compile("import ([^;]*);").matcher(program);
        while (imports.find()) holds("import of " + imports.group(1), imports.group(1).equals("java.util.Arrays"));
        Matcher arrays = Pattern.compile("\\b(Arrays|System|Math|Integer)\\.(\\w+)").matcher(program);
        Set<String> allowed = Set.of("Arrays.fill", "System.arraycopy", "Math.max", "Math.min", "Integer.bitCount");
        while (arrays.find()) holds("of the library: " + arrays.group(), allowed.contains(arrays.group()));
        Matcher methods = Pattern.compile("(?s)\n( {4}| {8})[a-z][^\n;=]*\\) \\{\n.*?\n\\1\\}").matcher(program);
        int count = 0;
        while (methods.find()) {
            count++;
            holds("a method of sixty lines at most: " + methods.group().substring(0, 40), methods.group().lines().count() <= 62);
        }
        holds("methods were seen", count > 60);
    }
}
