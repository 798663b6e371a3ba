import java.io.IOException;
import java.lang.reflect.Constructor;
import java.lang.reflect.Field;
import java.lang.reflect.Method;
import java.lang.reflect.Modifier;
import java.nio.file.Files;
import java.nio.file.Path;
import java.util.Set;
import java.util.TreeSet;
import java.util.regex.Matcher;
import java.util.regex.Pattern;

/** The public face, and those rules of LANGUAGE.md that can be seen without understanding the code. */
public final class LanguageTest {
    private static final Check CHECK = new Check();
    private static final String[] FACE = {
        "fire int", "water int", "valve int", "pressure int", "boiler int", "beat int", "whistle int int int boolean",
        "told int int", "stem int int", "crack int int", "leak int boolean", "pitch int int", "holds int int",
        "tuneAll int", "agree int", "feed long", "end int", "tune", "fault", "tuneOf int int", "play int int",
        "would int int", "key int int", "set int int int int int", "blame int int int int int int int",
        "boat int int", "bend int int", "speed int", "far int int", "heard int int int", "step int int int", "undo",
        "sheet int int int", "lay int int int", "scan int int int int", "count int"};
    private static final String[] RULED_OUT = {
        "throw", "throws", "try", "catch", "finally", "synchronized", "assert", "package", "protected", "native",
        "volatile", "transient", "Exact", "Random", "System\\.(?!arraycopy)", "Thread", "Object", "HashMap", "->", "::"};

    public static void main(String[] args) throws IOException {
        constants();
        face();
        insideClasses();
        source(Files.readString(Path.of("src/main/java/SteamTunes.java")));
        CHECK.finish();
    }

    private static void constants() {
        CHECK.due("BAD", SteamTunes.BAD, -1);
        CHECK.due("STATE", SteamTunes.STATE, -2);
        CHECK.due("FULL", SteamTunes.FULL, -3);
        CHECK.due("NONE", SteamTunes.NONE, -4);
        CHECK.due("DRY", SteamTunes.DRY, -5);
        Set<String> open = new TreeSet<>();
        for (Field f : SteamTunes.class.getDeclaredFields()) {
            if (!Modifier.isPrivate(f.getModifiers())) {
                open.add(f.getName());
            }
            boolean isChanging = Modifier.isStatic(f.getModifiers()) && !Modifier.isFinal(f.getModifiers());
            CHECK.due("static and not final: " + f.getName(), isChanging ? 1 : 0, 0);
        }
        CHECK.due("constants " + open, open.equals(Set.of("BAD", "STATE", "FULL", "NONE", "DRY")) ? 1 : 0, 1);
    }

    private static String told(Method m) {
        StringBuilder b = new StringBuilder(m.getName());
        for (Class<?> type : m.getParameterTypes()) {
            b.append(' ').append(type.getName());
        }
        return b.toString();
    }

    private static void face() {
        Set<String> names = new TreeSet<>();
        Set<String> want = new TreeSet<>(Set.of(FACE));
        for (Method m : SteamTunes.class.getDeclaredMethods()) {
            if (Modifier.isPrivate(m.getModifiers())) {
                continue;
            }
            CHECK.due("face: " + told(m), want.remove(told(m)) ? 1 : 0, 1);
            CHECK.due("public: " + told(m), Modifier.isPublic(m.getModifiers()) ? 1 : 0, 1);
            CHECK.due("int: " + told(m), m.getReturnType() == int.class ? 1 : 0, 1);
            names.add(m.getName());
        }
        CHECK.due("missing: " + want, want.size(), 0);
        Constructor<?>[] made = SteamTunes.class.getDeclaredConstructors();
        CHECK.due("constructors", made.length, 1);
        CHECK.due("public constructor", Modifier.isPublic(made[0].getModifiers()) ? 1 : 0, 1);
        CHECK.due("final", Modifier.isFinal(SteamTunes.class.getModifiers()) ? 1 : 0, 1);
        privateNames(SteamTunes.class, names);
        for (Class<?> inside : SteamTunes.class.getDeclaredClasses()) {
            privateNames(inside, names);
        }
    }

    private static void privateNames(Class<?> type, Set<String> taken) {
        for (Method m : type.getDeclaredMethods()) {
            if (!Modifier.isPublic(m.getModifiers())) {
                CHECK.due("a name of the face: " + m, taken.contains(m.getName()) ? 1 : 0, 0);
            }
            CHECK.due("more than seven parameters: " + m, m.getParameterCount() > 7 ? 1 : 0, 0);
        }
    }

    private static void insideClasses() {
        Class<?>[] inside = SteamTunes.class.getDeclaredClasses();
        CHECK.due("more than twelve classes", inside.length > 12 ? 1 : 0, 0);
        for (Class<?> type : inside) {
            CHECK.due("static: " + type, Modifier.isStatic(type.getModifiers()) ? 1 : 0, 1);
            int fields = 0;
            for (Field f : type.getDeclaredFields()) {
                fields += Modifier.isStatic(f.getModifiers()) ? 0 : 1;
            }
            CHECK.due("more than twenty fields: " + type, fields > 20 ? 1 : 0, 0);
        }
    }

    private static void source(String text) {
        String code = text.replaceAll("(?s)/\\*.*?\\*/", "").replaceAll("//[^\n]*", "");
        for (String word : RULED_OUT) {
            String pattern = Character.isLetter(word.charAt(0)) ? "\\b" + word + (word.endsWith(")") ? "" : "\\b") : word;
            Matcher m = Pattern.compile(pattern).matcher(code);
            CHECK.due("ruled out: " + word, m.find() ? 1 : 0, 0);
        }
        madeOnce(code);
        int length = 0;
        String name = "";
        for (String line : text.split("\n")) {
            if (line.matches("( {4}| {8})(public|private|static|int|void|boolean).*\\) \\{")) {
                name = line.trim();
                length = 0;
            }
            length++;
            if (line.matches("( {4}| {8})\\}")) {
                CHECK.due("longer than sixty lines: " + name, length > 60 ? 1 : 0, 0);
                length = 0;
            }
        }
    }

    /** All calls of a run share one room that is never swept: rows are made with the object, and the table of set once. */
    private static void madeOnce(String code) {
        int later = 0;
        for (String line : code.split("\n")) {
            boolean isField = line.matches(" +(private )?final [\\w\\[\\]]+ \\w+ = new .*");
            if (line.matches(".*\\bnew\\b.*") && !isField) {
                later++;
                CHECK.due("made in a call: " + line.trim(), line.trim().startsWith("table = new int[") ? 1 : 0, 1);
            }
            CHECK.due("a copy made: " + line.trim(), line.matches(".*\\b(clone|copyOf|copyOfRange|toCharArray)\\(.*") ? 1 : 0, 0);
        }
        CHECK.due("rows made in calls", later, 1);
    }
}
