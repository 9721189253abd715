import java.io.IOException;
import java.lang.reflect.Method;
import java.nio.file.Files;
import java.nio.file.Path;
import java.util.ArrayList;
import java.util.Arrays;
import java.util.LinkedHashMap;
import java.util.List;
import java.util.Map;
import java.util.TreeMap;
import java.util.regex.Matcher;
import java.util.regex.Pattern;
import java.util.stream.Stream;

/**
 * Runs the cases under src/test/cases: each sentence of the document with runs of calls of its own. Of every call there
 * that is refused, and of every one that only asks, it tries as well that it has changed nothing. At last it holds the
 * sentences that the cases quote against the document: none of it may be left without a case.
 */
public final class BoundaryTest {
    private static final Path CASES = Path.of("src/test/cases");
    private static final Path DOC = Path.of("../shared/DOC.md");
    private static final int MOST_CALLS = 512;
    private static final int REFUSED = -2;
    private static final List<String> ASKING = List.of("draft", "size", "line", "state", "missing", "on", "of", "reaches",
        "base", "kept", "conflict", "joining", "becomes", "blame", "renamed", "question", "ask", "found", "stem", "units", "count");
    private static final Map<String, Method> FACE = new TreeMap<>();
    private static int wrong = 0;

    public static void main(String[] args) throws IOException {
        for (Method m : VersionVault.class.getDeclaredMethods()) {
            if (FACE.put(m.getName(), m) != null) {
                tell("two methods have the name " + m.getName());
            }
        }
        Cases cases = new Cases();
        try (Stream<Path> files = Files.list(CASES)) {
            for (Path file : files.sorted().toList()) {
                cases.read(file);
            }
        }
        int calls = 0;
        int still = 0;
        for (Run run : cases.runs) {
            calls += run.calls.size();
            still += tryRun(run);
        }
        cases.needDues();
        holdAgainstDocument(cases.quotes);
        System.out.println(cases.runs.size() + " runs, " + calls + " calls, " + still + " tried to have changed nothing");
        System.out.println(wrong == 0 ? "the boundaries hold" : wrong + " boundaries do not hold");
        if (wrong != 0 || calls == 0) {
            System.exit(1);
        }
    }

    private static void tell(String words) {
        wrong++;
        if (wrong <= 40) {
            System.out.println(words);
        }
    }

    /** A call, the answer that is due (null for any), and the place that asks for it. */
    private record Call(String name, int[] args, Integer due, String place) {
        String words() {
            return name + Arrays.toString(args).replace('[', '(').replace(']', ')');
        }

        int on(VersionVault v) {
            Object[] boxed = new Object[args.length];
            for (int i = 0; i < args.length; i++) {
                boxed[i] = args[i];
            }
            try {
                return (Integer) FACE.get(name).invoke(v, boxed);
            } catch (ReflectiveOperationException e) {
                throw new IllegalStateException(place + ": " + words() + " threw " + e.getCause(), e);
            }
        }

        boolean changesNothing() {
            return ASKING.contains(name) || (due != null && due == REFUSED);
        }
    }

    private static final class Run {
        final List<Call> calls = new ArrayList<>();
    }

    private static int tryRun(Run run) {
        VersionVault v = new VersionVault();
        if (run.calls.size() > MOST_CALLS) {
            tell(run.calls.get(0).place + ": more than " + MOST_CALLS + " calls");
            return 0;
        }
        for (Call call : run.calls) {
            int got = call.on(v);
            if (call.due != null && got != call.due) {
                tell(call.place + ": " + call.words() + " answered " + got + ", due is " + call.due);
                return 0;
            }
        }
        int still = 0;
        for (int at = 0; at < run.calls.size(); at++) {
            if (run.calls.get(at).changesNothing()) {
                tryNoChange(run, at);
                still++;
            }
        }
        return still;
    }

    // ---- that a call has changed nothing

    /** Looks at two objects, with and without the call; new ones for each look, as a look may change them. */
    private static void tryNoChange(Run run, int at) {
        List<Call> without = run.calls.subList(0, at);
        List<Call> with = run.calls.subList(0, at + 1);
        int room = MOST_CALLS - with.size();
        for (List<Call> look : looks(made(without), room)) {
            VersionVault one = made(without);
            VersionVault other = made(with);
            for (Call call : look) {
                int was = call.on(one);
                int is = call.on(other);
                if (was != is) {
                    Call tried = run.calls.get(at);
                    tell(tried.place + ": behind " + tried.words() + " " + call.words() + " answered " + is
                        + ", without it " + was);
                    return;
                }
            }
        }
    }

    private static VersionVault made(List<Call> calls) {
        VersionVault v = new VersionVault();
        for (Call call : calls) {
            call.on(v);
        }
        return v;
    }

    private static List<List<Call>> looks(VersionVault v, int room) {
        List<List<Call>> all = new ArrayList<>();
        List<Call> asked = questions(v);
        for (int from = 0; from < asked.size() && room > 0; from += room) {
            all.add(asked.subList(from, Math.min(asked.size(), from + room)));
        }
        for (List<Call> look : changingLooks(v)) {
            all.add(look.subList(0, Math.min(look.size(), room)));
        }
        return all;
    }

    private static List<Call> questions(VersionVault v) {
        List<Call> all = new ArrayList<>();
        each(all, "count", 9);
        each(all, "draft", 25);
        for (int t = 0; t < v.count(0); t++) {
            for (String name : List.of("state", "stem", "missing", "size")) {
                all.add(look(name, t));
            }
            each(all, "line", Math.max(0, v.size(t)), t);
        }
        for (int shelf = 0; shelf < v.count(1); shelf++) {
            each(all, "on", 16, shelf);
        }
        for (int s = 0; s < v.count(2); s++) {
            each(all, "of", 4, s);
        }
        for (int k = 0; k < 24 && v.kept(k, 0) != -1; k++) {
            each(all, "kept", 2, k);
        }
        all.add(look("kept", 24, 0));
        for (int c = 0; c < conflicts(v); c++) {
            for (int side = 0; side < 3; side++) {
                all.add(look("conflict", c, side + 3, 0));
                each(all, "conflict", v.conflict(c, side + 3, 0) + 1, c, side);
            }
        }
        each(all, "joining", 3);
        each(all, "becomes", 16);
        for (String name : List.of("question", "ask", "found", "units")) {
            all.add(look(name));
        }
        return all;
    }

    private static List<List<Call>> changingLooks(VersionVault v) {
        List<Call> basket = new ArrayList<>();
        each(basket, "take", 16);
        List<Call> heads = new ArrayList<>();
        for (int h = 0; h < 8; h++) {
            heads.add(look("head", h, -1));
        }
        List<Call> marks = new ArrayList<>();
        for (int s = 0; s < v.count(2); s++) {
            marks.add(look("mark", s, 0));
        }
        List<Call> settled = new ArrayList<>();
        for (int c = 0; c < conflicts(v); c++) {
            settled.add(look("settle", c, -1));
        }
        List<Call> merged = new ArrayList<>(List.of(look("merged")));
        each(merged, "draft", 25);
        int next = v.count(2);
        List<Call> joined = List.of(look("joined"), look("of", next, 0), look("of", next, 1), look("of", next, 2));
        return List.of(basket, heads, marks, settled, merged, joined, List.of(look("text"), look("wipe")),
            List.of(look("shelf"), look("count", 6)), List.of(look("pack"), look("units")),
            List.of(look("sweep"), look("count", 4)));
    }

    private static int conflicts(VersionVault v) {
        int c = 0;
        while (c < 25 && v.conflict(c, 3, 0) >= 0) {
            c++;
        }
        return c;
    }

    private static Call look(String name, int... args) {
        return new Call(name, args, null, "a look");
    }

    /** The call with a last argument from 0 on below n. */
    private static void each(List<Call> all, String name, int n, int... first) {
        for (int i = 0; i < n; i++) {
            int[] args = Arrays.copyOf(first, first.length + 1);
            args[first.length] = i;
            all.add(look(name, args));
        }
    }

    // ---- reading the cases

    /** Reads the form that src/test/cases/README.md tells. */
    private static final class Cases {
        final List<Run> runs = new ArrayList<>();
        /** Of each section of the document the sentences that have a case. */
        final Map<String, List<String>> quotes = new LinkedHashMap<>();
        final Map<String, List<String>> blocks = new TreeMap<>();
        final Map<String, Integer> dues = new LinkedHashMap<>();
        String section = "";
        String quote = "";
        Run run = new Run();

        void read(Path file) throws IOException {
            if (!file.toString().endsWith(".txt")) {
                return;
            }
            String block = null;
            int number = 0;
            for (String raw : Files.readAllLines(file)) {
                number++;
                String row = raw.trim();
                String place = file.getFileName() + ":" + number;
                if (row.isEmpty() || row.startsWith("--")) {
                    continue;
                }
                if (row.startsWith("def ")) {
                    block = row.substring(4);
                    blocks.put(block, new ArrayList<>());
                } else if (row.equals("end")) {
                    block = null;
                } else if (block != null) {
                    blocks.get(block).add(row);
                } else if (row.equals("Terms") || row.startsWith("Promise ")) {
                    section = row;
                    quotes.putIfAbsent(section, new ArrayList<>());
                } else if (row.startsWith("> ")) {
                    quote = row.substring(2);
                    quotes.get(section).add(quote);
                    dues.merge(section + ": " + quote, 0, Integer::sum);
                    startRun();
                } else if (row.equals("new")) {
                    startRun();
                } else {
                    readCalls(row, place + " (" + section + ", " + quote + ")");
                }
            }
        }

        void startRun() {
            run = new Run();
            runs.add(run);
        }

        void readCalls(String row, String place) {
            if (row.startsWith("use ")) {
                for (String it : blocks.get(row.substring(4))) {
                    readCalls(it, place);
                }
                return;
            }
            Matcher loop = Pattern.compile("for (-?\\d+)\\.\\.(-?\\d+): (.*)").matcher(row);
            if (loop.matches()) {
                for (int i = Integer.parseInt(loop.group(1)); i <= Integer.parseInt(loop.group(2)); i++) {
                    readCalls(counted(loop.group(3), i), place);
                }
                return;
            }
            for (String one : row.split(";")) {
                readCall(one.trim(), place);
            }
        }

        /** Puts i, or what is so much more or less, for the sign #. */
        String counted(String words, int i) {
            return Pattern.compile("#([+-]\\d+)?").matcher(words)
                .replaceAll(it -> String.valueOf(i + (it.group(1) == null ? 0 : Integer.parseInt(it.group(1)))));
        }

        void readCall(String words, String place) {
            int sign = words.indexOf('=');
            Integer due = sign < 0 ? null : number(words.substring(sign + 1).trim());
            String call = sign < 0 ? words : words.substring(0, sign).trim();
            if (call.startsWith("[")) {
                List<Integer> lines = numbers(inner(call));
                for (int i = 0; i < lines.size(); i++) {
                    put(place, i + 1, "add", lines.get(i));
                }
                put(place, due, "text");
            } else if (call.startsWith("{")) {
                for (String pair : inner(call).isEmpty() ? new String[0] : inner(call).split(" ")) {
                    put(place, -1, "lay", number(pair.split(":")[0]), number(pair.split(":")[1]));
                }
                put(place, due, "shelf");
            } else if (call.contains(" is")) {
                readRow(call, place);
            } else {
                String[] parts = call.split(" ");
                int[] args = new int[parts.length - 1];
                for (int i = 0; i < args.length; i++) {
                    args[i] = number(parts[i + 1]);
                }
                put(place, due, parts[0], args);
            }
        }

        void readRow(String call, String place) {
            String[] what = call.substring(0, call.indexOf(" is")).split(" ");
            String row = call.substring(call.indexOf(" is") + 3).trim();
            if (what[0].equals("pairs")) {
                String[] pairs = row.isEmpty() ? new String[0] : row.split(" ");
                for (int k = 0; k < pairs.length; k++) {
                    put(place, number(pairs[k].split(":")[0]), "kept", k, 0);
                    put(place, number(pairs[k].split(":")[1]), "kept", k, 1);
                }
                put(place, -1, "kept", pairs.length, 0);
                put(place, -1, "kept", pairs.length, 1);
                return;
            }
            List<Integer> lines = numbers(row);
            if (what[0].equals("draft")) {
                put(place, lines.size(), "count", 5);
            } else if (what[0].equals("text")) {
                put(place, lines.size(), "size", number(what[1]));
            } else {
                put(place, lines.size(), "conflict", number(what[1]), number(what[2]) + 3, 0);
            }
            for (int i = 0; i < lines.size(); i++) {
                if (what[0].equals("draft")) {
                    put(place, lines.get(i), "draft", i);
                } else if (what[0].equals("text")) {
                    put(place, lines.get(i), "line", number(what[1]), i);
                } else {
                    put(place, lines.get(i), "conflict", number(what[1]), number(what[2]), i);
                }
            }
        }

        void put(String place, Integer due, String name, int... args) {
            Method method = FACE.get(name);
            if (method == null || method.getParameterCount() != args.length) {
                throw new IllegalArgumentException(place + ": no such call: " + name + Arrays.toString(args));
            }
            run.calls.add(new Call(name, args, due, place));
            if (due != null) {
                dues.merge(section + ": " + quote, 1, Integer::sum);
            }
        }

        static String inner(String call) {
            return call.substring(1, call.length() - 1).trim();
        }

        static int number(String word) {
            return word.equals("MIN") ? Integer.MIN_VALUE : word.equals("MAX") ? Integer.MAX_VALUE : Integer.parseInt(word);
        }

        /** Numbers, and a..b for all from a to b. */
        static List<Integer> numbers(String row) {
            List<Integer> all = new ArrayList<>();
            for (String word : row.isEmpty() ? new String[0] : row.split(" +")) {
                int dots = word.indexOf("..");
                int from = number(dots < 0 ? word : word.substring(0, dots));
                int to = dots < 0 ? from : number(word.substring(dots + 2));
                for (long n = from; n <= to; n++) {
                    all.add((int) n);
                }
            }
            return all;
        }

        void needDues() {
            for (Map.Entry<String, Integer> it : dues.entrySet()) {
                if (it.getValue() == 0) {
                    tell("no answer is due for " + it.getKey());
                }
            }
        }
    }

    // ---- the document

    private static void holdAgainstDocument(Map<String, List<String>> quotes) throws IOException {
        if (!Files.exists(DOC)) {
            System.out.println("no document here: the sentences of the cases are not held against it");
            return;
        }
        Map<String, String> sections = sections(Files.readString(DOC));
        if (sections.size() != 44) {
            tell("the document has " + sections.size() + " sections, 44 are due");
        }
        for (Map.Entry<String, String> it : sections.entrySet()) {
            String body = it.getValue();
            boolean[] met = new boolean[body.length()];
            for (String quote : quotes.getOrDefault(it.getKey(), List.of())) {
                int at = body.indexOf(quote);
                if (at < 0) {
                    tell(it.getKey() + " does not say: " + quote);
                }
                for (; at >= 0; at = body.indexOf(quote, at + 1)) {
                    Arrays.fill(met, at, at + quote.length(), true);
                }
            }
            tellUnmet(it.getKey(), body, met);
        }
    }

    private static void tellUnmet(String section, String body, boolean[] met) {
        StringBuilder left = new StringBuilder();
        for (int i = 0; i <= body.length(); i++) {
            if (i < body.length() && !met[i]) {
                left.append(body.charAt(i));
            } else {
                if (!left.toString().isBlank()) {
                    tell(section + " has no case for: " + left.toString().trim());
                }
                left.setLength(0);
            }
        }
    }

    /** The sentences of the Terms and of each promise, without marks, on one row each. */
    private static Map<String, String> sections(String doc) {
        Map<String, String> all = new LinkedHashMap<>();
        String section = "";
        for (String raw : doc.split("\n")) {
            String row = raw.trim();
            Matcher head = Pattern.compile("## (Terms|Promise \\d+|.*)(:.*)?").matcher(row);
            if (row.startsWith("## ") && head.matches()) {
                String name = head.group(1).replaceAll(":.*", "");
                section = name.equals("Terms") || name.startsWith("Promise ") ? name : "";
            } else if (!section.isEmpty() && !row.isEmpty() && !row.startsWith("```") && !row.startsWith("Ahead of the calls")) {
                String words = row.replaceFirst("^\\d\\. ", "").replaceFirst("^`[^`]*`: ", "");
                all.merge(section, words, (before, more) -> before + " " + more);
            }
        }
        return all;
    }
}
