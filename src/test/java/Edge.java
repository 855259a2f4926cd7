import java.io.IOException;
import java.io.UncheckedIOException;
import java.nio.file.Files;
import java.nio.file.Path;
import java.util.ArrayList;
import java.util.IdentityHashMap;
import java.util.LinkedHashMap;
import java.util.List;
import java.util.Map;
import java.util.function.Consumer;
import java.util.function.Function;
import java.util.function.ToIntFunction;

/**
 * What the tests of boundary cases share. Each of them begins with the words of the document that it stands for; these
 * are looked up there, so that none is misquoted and none is left without a test; "The public face" has FaceTest.
 */
class Edge {
    static final int NONE = Check.NONE;
    static final int UNKNOWN = Check.UNKNOWN;
    static final int OUTSIDE = Check.OUTSIDE;
    static final int NOT = Check.NOT;
    static final int FULL = Check.FULL;
    static final int LEAST = Integer.MIN_VALUE;
    static final int GREATEST = Integer.MAX_VALUE;

    /** No hills, nothing done. */
    static final Consumer<Called> NEW = x -> { };

    /** Something of everything that a refused call could spoil: five persons, three villages. */
    static final Consumer<Called> RICH = x -> {
        richDeeds(x);
        x.read("o1 0;");
        x.feedAll("o3 3;v7;");
    };

    private static final Map<String, String> DOCUMENT = document();
    private static final Map<String, boolean[]> QUOTED = new LinkedHashMap<>();
    private static final List<Function<Called, String>> LOOKS = looks();
    private static final Map<Consumer<Called>, List<String>> SEEN = new IdentityHashMap<>();

    private static String sentence = "";
    private static int dues = 1;

    static void richDeeds(Called x) {
        x.read(Check.HILLS);
        x.seed(77);
        x.tell(0, 40);
        x.answer(0, 3);
        x.keep(0);
        x.year(1);
        x.tell(1, 30);
        x.keep(1);
        x.tell(2, 50);
        x.answer(2, 2);
        x.wit(4, 9);
        x.bear(1, 8);
        x.drift(1);
        x.tell(3, 60);
        x.answer(3, 0);
        x.returned(28);
        x.write(0, 1);
        x.write(3, 0);
    }

    /** The document's parts by name: "What it is", "Terms", "1", "2", "3", "Promise 1" and on, "Not promised". */
    private static Map<String, String> document() {
        String all;
        try {
            all = Files.readString(Path.of("../shared/DOC.md"));
        } catch (IOException e) {
            throw new UncheckedIOException(e);
        }
        Map<String, String> parts = new LinkedHashMap<>();
        parts.put("What it is", between(all, "villages, persons by how", "## The public face"));
        parts.put("Terms", between(all, "Words in capitals", "======== 1"));
        parts.put("1", between(all, "THE HILLS are told", "======== 2").replace("```text", "").replace("```", ""));
        parts.put("2", between(all, "A PERSON is told", "======== 3").replace("```text", "").replace("```", ""));
        parts.put("3", between(all, "TRIED from now", "Ahead of the calls").replace("```text", "").replace("```", ""));
        for (int k = 1; k <= 26; k++) {
            String promise = between(all, "## Promise " + k + ":", k < 26 ? "## Promise " + (k + 1) + ":" : "## Not promised");
            parts.put("Promise " + k, promise.substring(promise.indexOf(")`:") + 3));
        }
        String rest = all.substring(all.indexOf("## Not promised"));
        parts.put("Not promised", rest.substring(rest.indexOf('\n')));
        parts.replaceAll((name, part) -> part.replaceAll("\\s+", " ").trim());
        return parts;
    }

    private static String between(String all, String first, String next) {
        int from = all.indexOf(first);
        int to = all.indexOf(next, Math.max(from, 0));
        if (from < 0 || to < 0) throw new IllegalStateException("the document has no " + first + " .. " + next);
        return all.substring(from, to);
    }

    /** Begins the test of these words of the document. */
    static void of(String part, String words) {
        close();
        quote(part, words);
        sentence = part + ": \"" + words + "\"";
        dues = 0;
    }

    private static void close() {
        Check.due(sentence + " has something due (1)", dues > 0 ? 1 : 0, 1);
    }

    /** These words name no boundary case. */
    static void noEdge(String part, String words) {
        quote(part, words);
    }

    private static void quote(String part, String words) {
        String text = DOCUMENT.get(part);
        int at = text == null ? -1 : text.indexOf(words);
        Check.due("the document has, in " + part + ": \"" + words + "\" (1)", at >= 0 ? 1 : 0, 1);
        if (at < 0) return;
        boolean[] quoted = QUOTED.computeIfAbsent(part, name -> new boolean[text.length()]);
        for (int i = at; i < at + words.length(); i++) quoted[i] = true;
    }

    /** Nothing but signs between words may stand in the document without a test. */
    static void allQuoted() {
        close();
        for (Map.Entry<String, String> part : DOCUMENT.entrySet()) {
            String text = part.getValue();
            boolean[] quoted = QUOTED.getOrDefault(part.getKey(), new boolean[text.length()]);
            StringBuilder rest = new StringBuilder();
            for (int i = 0; i < text.length(); i++) rest.append(quoted[i] ? ' ' : text.charAt(i));
            String left = rest.toString().replaceAll("[ .,;:()]+", " ").trim();
            Check.due("without a test in " + part.getKey() + ": \"" + left + "\"", left.length(), 0);
        }
    }

    /** What the latest call answered, and what is due. */
    static void due(int got, int want) {
        dues++;
        Check.due(sentence + ": " + Called.latest, got, want);
    }

    static void same(String what, String got, String want) {
        dues++;
        Check.due(sentence + ": " + what + " (1)", got.equals(want) ? 1 : 0, 1);
    }

    /** What is told of an object without changing it. */
    static String shown(Called x) {
        StringBuilder all = new StringBuilder();
        for (int what = 0; what <= 18; what++) all.append(x.told(what)).append(' ');
        for (int p = 0; p < 7; p++) for (int what = 0; what <= 8; what++) all.append(x.person(p, what)).append(' ');
        for (int v = 0; v < 4; v++) for (int what = 0; what <= 3; what++) all.append(x.village(v, what)).append(' ');
        return all.append(x.judge()).append(' ').append(x.fault()).toString();
    }

    /** All that an object holds, each look at an object of its own, since most of them change it. */
    private static List<Function<Called, String>> looks() {
        List<Function<Called, String>> looks = new ArrayList<>();
        looks.add(Edge::shown);
        looks.add(x -> "seed " + x.seed(0));
        looks.add(x -> "hills " + x.hills() + " " + shown(x));
        for (int i = 0; i < 2; i++) {
            int image = i;
            looks.add(x -> "image " + x.goBack(image) + " " + shown(x) + " " + x.seed(0));
        }
        for (int k = 1; k <= 16; k++) {
            int times = k;
            looks.add(x -> {
                int more = 0;
                for (int i = 0; i < times; i++) more = x.undo();
                return "undone " + more + " " + shown(x);
            });
        }
        return looks;
    }

    private static Called behind(Consumer<Called> ahead) {
        Called x = new Called();
        ahead.accept(x);
        return x;
    }

    private static List<String> seen(Consumer<Called> ahead) {
        return SEEN.computeIfAbsent(ahead, deeds -> {
            List<String> all = new ArrayList<>();
            for (Function<Called, String> look : LOOKS) all.add(look.apply(behind(deeds)));
            return all;
        });
    }

    /** A call that changes nothing, whatever it answers. */
    static void unchanged(Consumer<Called> ahead, ToIntFunction<Called> call) {
        List<String> before = seen(ahead);
        for (int i = 0; i < LOOKS.size(); i++) {
            Called x = behind(ahead);
            call.applyAsInt(x);
            String name = Called.latest;
            same(name + " changed nothing, look " + i, LOOKS.get(i).apply(x), before.get(i));
        }
    }

    /** A refused call: what it answers, and that it changes nothing. */
    static void refused(Consumer<Called> ahead, ToIntFunction<Called> call, int want) {
        due(call.applyAsInt(behind(ahead)), want);
        unchanged(ahead, call);
    }
}
