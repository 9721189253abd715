import java.io.IOException;
import java.lang.reflect.Array;
import java.lang.reflect.Constructor;
import java.lang.reflect.Field;
import java.lang.reflect.Method;
import java.lang.reflect.Modifier;
import java.nio.file.Files;
import java.nio.file.Path;
import java.util.IdentityHashMap;
import java.util.List;
import java.util.Map;
import java.util.TreeSet;
import java.util.regex.Matcher;
import java.util.regex.Pattern;

/** The face and the form that LANGUAGE.md asks for, as far as a program can tell, and the room that an object needs. */
public final class RulesTest {
    private static final String FACE = "add(int) wipe() draft(int) text() size(int) line(int,int) copy(int) state(int) missing(int)"
        + " lay(int,int) take(int) load(int) shelf() on(int,int) step(int,int,int) of(int,int) reaches(int,int)"
        + " base(int,int,int) head(int,int) diff(int,int) kept(int,int) merge(int,int,int) conflict(int,int,int)"
        + " settle(int,int) merged() join(int,int) joining(int) becomes(int) mend(int,int) joined() blame(int,int,int)"
        + " renamed(int,int) mark(int,int) question() ask() found() pack() stem(int) units() sweep() lose(int) count(int)";
    private static int wrong = 0;

    public static void main(String[] args) throws IOException, IllegalAccessException {
        face();
        nested();
        source(Files.readString(Path.of("src/main/java/VersionVault.java")));
        room();
        System.out.println(wrong == 0 ? "the rules are kept" : wrong + " rules are broken");
        if (wrong != 0) {
            System.exit(1);
        }
    }

    private static void rule(boolean kept, String words) {
        if (!kept) {
            wrong++;
            System.out.println("broken: " + words);
        }
    }

    private static String signature(Method m) {
        StringBuilder words = new StringBuilder(m.getName()).append('(');
        for (int i = 0; i < m.getParameterCount(); i++) {
            words.append(i == 0 ? "" : ",").append(m.getParameterTypes()[i].getName());
        }
        return words.append(')').toString();
    }

    private static void face() {
        TreeSet<String> due = new TreeSet<>(List.of(FACE.split(" ")));
        TreeSet<String> names = new TreeSet<>();
        for (String it : due) {
            names.add(it.substring(0, it.indexOf('(')));
        }
        TreeSet<String> met = new TreeSet<>();
        for (Method m : VersionVault.class.getDeclaredMethods()) {
            if (!Modifier.isPrivate(m.getModifiers())) {
                met.add(signature(m));
                rule(m.getReturnType() == int.class && m.getModifiers() == Modifier.PUBLIC, m.getName() + " is public int");
            } else {
                rule(!names.contains(m.getName()), "rule 1: private " + m.getName());
            }
        }
        rule(due.size() == 42 && met.equals(due), "rule 1: the face is " + met);
        rule(Modifier.isFinal(VersionVault.class.getModifiers()), "rule 1: the class is final");
        Constructor<?>[] made = VersionVault.class.getDeclaredConstructors();
        rule(made.length == 1 && made[0].getModifiers() == Modifier.PUBLIC && made[0].getParameterCount() == 0, "rule 1: the constructor");
        for (Field f : VersionVault.class.getDeclaredFields()) {
            rule(Modifier.isPrivate(f.getModifiers()), "rule 1: field " + f.getName());
        }
        for (Class<?> c : VersionVault.class.getDeclaredClasses()) {
            for (Method m : c.getDeclaredMethods()) {
                rule(!names.contains(m.getName()), "rule 1: " + c.getSimpleName() + "." + m.getName() + " bears a name of the face");
                rule(m.getParameterCount() <= 7, "rule 11: parameters of " + m.getName());
            }
        }
    }

    private static void nested() {
        Class<?>[] all = VersionVault.class.getDeclaredClasses();
        rule(all.length <= 11, "rule 11: classes");
        for (Class<?> c : all) {
            int mods = c.getModifiers();
            rule(Modifier.isStatic(mods) && !Modifier.isPublic(mods) && !Modifier.isProtected(mods), "rule 1: " + c.getSimpleName());
            int fields = 0;
            for (Field f : c.getDeclaredFields()) {
                if (Modifier.isStatic(f.getModifiers())) {
                    rule(Modifier.isFinal(f.getModifiers()), "rule 5: " + f.getName());
                } else {
                    fields++;
                }
            }
            rule(fields <= 20, "rule 11: fields of " + c.getSimpleName());
        }
    }

    private static void source(String text) {
        String bare = text.replaceAll("(?s)/\\*.*?\\*/", " ").replaceAll("//[^\n]*", " ");
        for (String word : new String[] {"throw", "throws", "try", "catch", "finally", "synchronized", "assert", "import",
            "package", "protected", "native", "volatile", "transient", "System", "Object", "Long\\.[A-Z]", "Integer\\.[A-Z]"}) {
            rule(!Pattern.compile("\\b" + word + "\\b").matcher(bare).find(), "the word " + word);
        }
        for (String sign : new String[] {"->", "::", "Exact(", "\"", "@", "while (true)", "for (;;)"}) {
            rule(!bare.contains(sign), "the sign " + sign);
        }
        for (char c : text.toCharArray()) {
            rule(c == '\n' || (c >= 32 && c < 127), "a sign that is not plain");
        }
        Matcher body = Pattern.compile("(?m)^(    |        )(public|private) [^=;]*\\{\n(?:(?!^\\1\\}).*\n)*").matcher(text);
        while (body.find()) {
            if (!body.group().contains(" class ")) {
                rule(body.group().split("\n").length <= 60, "rule 11: a long method: " + body.group().split("\n")[0].trim());
            }
        }
    }

    private static void room() throws IllegalAccessException {
        VersionVault v = new VersionVault();
        for (int t = 0; t < 120; t++) {
            v.add(t);
            v.add(t % 7);
            v.lay(t % 16, v.text());
            v.shelf();
            v.step(t % 3, t % 5 - 1, -1);
        }
        v.join(5, 6);
        v.merge(1, 2, 3);
        v.pack();
        Map<Object, Object> seen = new IdentityHashMap<>();
        long cells = walk(v, seen, 0);
        System.out.println("an object's room: " + seen.size() + " objects and arrays, " + cells + " fields and elements");
        rule(seen.size() < 200 && cells < 20000, "an object needs little room");
    }

    private static long walk(Object it, Map<Object, Object> seen, int depth) throws IllegalAccessException {
        if (it == null || depth > 20 || seen.put(it, it) != null) {
            return 0;
        }
        long cells = 0;
        if (it.getClass().isArray()) {
            int length = Array.getLength(it);
            cells += length;
            for (int i = 0; i < length && !it.getClass().getComponentType().isPrimitive(); i++) {
                cells += walk(Array.get(it, i), seen, depth + 1);
            }
            return cells;
        }
        for (Field f : it.getClass().getDeclaredFields()) {
            if (!Modifier.isStatic(f.getModifiers())) {
                cells++;
                f.setAccessible(true);
                if (!f.getType().isPrimitive()) {
                    cells += walk(f.get(it), seen, depth + 1);
                }
            }
        }
        return cells;
    }
}
