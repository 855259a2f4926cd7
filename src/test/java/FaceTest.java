import java.io.IOException;
import java.lang.reflect.Constructor;
import java.lang.reflect.Field;
import java.lang.reflect.Method;
import java.lang.reflect.Modifier;
import java.nio.file.Files;
import java.nio.file.Path;
import java.util.ArrayList;
import java.util.LinkedHashMap;
import java.util.List;
import java.util.Map;
import java.util.Set;
import java.util.TreeSet;
import java.util.regex.Matcher;
import java.util.regex.Pattern;

/** "The public face": the class has what the document's face has, as it is written there, and nothing more. */
public final class FaceTest {
    private static final Pattern METHOD = Pattern.compile("public int (\\w+)\\(([^)]*)\\);");

    public static void main(String[] args) throws IOException, IllegalAccessException {
        String document = Files.readString(Path.of("../shared/DOC.md"));
        String program = Files.readString(Path.of("src/main/java/AnsweredFates.java"));
        theClass(document);
        constants(document);
        methods(document, program);
        promises(document);
        headings(document, program);
        Check.end();
    }

    private static void holds(String what, boolean so) {
        Check.due(what + " (1)", so ? 1 : 0, 1);
    }

    private static String face(String document) {
        int from = document.indexOf("```java", document.indexOf("## The public face"));
        return document.substring(from, document.indexOf("```", from + 7));
    }

    /** The methods of the document's face in their order: name and parameters as written. */
    static Map<String, String> methodsOf(String document) {
        Map<String, String> all = new LinkedHashMap<>();
        Matcher m = METHOD.matcher(face(document));
        while (m.find()) all.put(m.group(1), m.group(2));
        return all;
    }

    private static void theClass(String document) {
        Class<?> c = AnsweredFates.class;
        holds("the document's class is public and final", face(document).contains("public final class AnsweredFates {"));
        holds("the class is public and final", Modifier.isPublic(c.getModifiers()) && Modifier.isFinal(c.getModifiers()));
        holds("it is in no package", c.getPackageName().isEmpty());
        holds("it is of no other class", c.getSuperclass() == Object.class && c.getInterfaces().length == 0);
        Constructor<?>[] made = c.getDeclaredConstructors();
        holds("the document has one constructor", face(document).contains("public AnsweredFates();"));
        holds("one public constructor", made.length == 1 && Modifier.isPublic(made[0].getModifiers()) && made[0].getParameterCount() == 0);
    }

    private static void constants(String document) throws IllegalAccessException {
        Matcher line = Pattern.compile("public static final int ([^;]*);").matcher(face(document));
        Map<String, Integer> due = new LinkedHashMap<>();
        while (line.find()) {
            for (String constant : line.group(1).split(", ")) {
                String[] parts = constant.split(" = ");
                due.put(parts[0], Integer.valueOf(parts[1]));
            }
        }
        Check.due("constants of the document", due.size(), 5);
        int there = 0;
        for (Field f : AnsweredFates.class.getDeclaredFields()) {
            if (Modifier.isPrivate(f.getModifiers())) continue;
            there++;
            holds(f + " is a constant", Modifier.isPublic(f.getModifiers()) && Modifier.isStatic(f.getModifiers())
                    && Modifier.isFinal(f.getModifiers()) && f.getType() == int.class);
            holds(f + " is in the document", due.containsKey(f.getName()));
            if (due.containsKey(f.getName())) Check.due(f.getName(), f.getInt(null), due.get(f.getName()));
        }
        Check.due("constants", there, due.size());
    }

    private static void methods(String document, String program) {
        Map<String, String> due = methodsOf(document);
        Check.due("methods of the document", due.size(), 25);
        Set<String> there = new TreeSet<>();
        for (Method m : AnsweredFates.class.getDeclaredMethods()) {
            if (Modifier.isPrivate(m.getModifiers())) continue;
            holds(m.getName() + " is public and answers an int", Modifier.isPublic(m.getModifiers())
                    && !Modifier.isStatic(m.getModifiers()) && m.getReturnType() == int.class);
            for (Class<?> type : m.getParameterTypes()) holds(m.getName() + " takes ints", type == int.class);
            holds(m.getName() + " stands once", there.add(m.getName()));
        }
        holds("the methods are those of the document: " + there, there.equals(new TreeSet<>(due.keySet())));
        for (Map.Entry<String, String> m : due.entrySet()) {
            String written = "    public int " + m.getKey() + "(" + m.getValue() + ") {\n";
            holds("as it is written: " + written.trim(), program.contains(written));
        }
    }

    /** The constructor and each method have a promise, in the order of the face. */
    private static void promises(String document) {
        List<String> due = new ArrayList<>(List.of("AnsweredFates()"));
        methodsOf(document).forEach((name, with) -> due.add("int " + name + "(" + with + ")"));
        for (int k = 1; k <= due.size(); k++) {
            int at = document.indexOf("## Promise " + k + ":");
            holds("promise " + k + " is of " + due.get(k - 1), at >= 0
                    && document.startsWith("`" + due.get(k - 1) + "`:", document.indexOf('`', at)));
        }
        holds("no more promises", !document.contains("## Promise " + (due.size() + 1) + ":"));
    }

    /** "Ahead of the calls .. the interface says": the same heading stands ahead of the same methods. */
    private static void headings(String document, String program) {
        StringBuilder due = new StringBuilder();
        Matcher part = Pattern.compile("Ahead of the calls ([^\n]*) the interface says: ---- ([^\n]*)\\.\n").matcher(document);
        while (part.find()) due.append("---- ").append(part.group(2)).append(": ").append(part.group(1).replace("`", "")).append('\n');
        StringBuilder there = new StringBuilder();
        Matcher line = Pattern.compile("    // ---- ([^\n]*)\n|    public int (\\w+)\\(").matcher(program);
        while (line.find()) {
            if (line.group(1) != null) there.append(there.length() == 0 ? "" : "\n").append("---- ").append(line.group(1)).append(":");
            else there.append(there.charAt(there.length() - 1) == ':' ? " " : ", ").append(line.group(2));
        }
        there.append('\n');
        holds("the document has headings", due.length() > 0);
        holds("the headings are those of the document:\n" + there, there.toString().equals(due.toString()));
    }
}
