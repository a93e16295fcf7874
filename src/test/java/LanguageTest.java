import java.io.IOException;
import java.lang.reflect.Constructor;
import java.lang.reflect.Field;
import java.lang.reflect.Method;
import java.lang.reflect.Modifier;
import java.nio.file.Files;
import java.nio.file.Path;
import java.util.ArrayList;
import java.util.Arrays;
import java.util.List;
import java.util.Set;
import java.util.TreeSet;
import java.util.regex.Matcher;
import java.util.regex.Pattern;

/** What can be seen of LANGUAGE.md from the file and from the compiled class. */
final class LanguageTest {
    private static final Check CHECK = new Check("LanguageTest");
    private static final Path FILE = Path.of("src/main/java/PocketLaws.java");
    private static final String FACE = "back(int) clear() count(int) drops(int,int) fixed(int) hoard(int) keep(int) lay(int,int)"
        + " letsIn(int,int) moves(int,int) night() now(int) odds(int,int,int,int,int) pocket(int,int) rate(int,int) realm()"
        + " saves(int,int) stitches(int,int,int) stow(int) thing(int,int) trace() type(int) undo() way(int,int,int)";

    public static void main(String[] args) throws IOException {
        String source = Files.readString(FILE);
        face();
        insideClasses();
        words(bare(source));
        methodLengths(source);
        CHECK.end();
    }

    private static void face() {
        Set<String> methods = new TreeSet<>();
        Set<String> names = new TreeSet<>();
        for (Method m : PocketLaws.class.getDeclaredMethods()) {
            if (Modifier.isPublic(m.getModifiers())) {
                List<String> kinds = Arrays.stream(m.getParameterTypes()).map(Class::getName).toList();
                methods.add(m.getName() + "(" + String.join(",", kinds) + ")");
                names.add(m.getName());
                Class<?> answer = m.getName().equals("trace") ? long.class : int.class;
                CHECK.holds("answer of " + m.getName(), m.getReturnType() == answer && !Modifier.isStatic(m.getModifiers()));
            }
        }
        CHECK.holds("the methods are " + methods, String.join(" ", methods).equals(FACE));
        Set<String> constants = new TreeSet<>();
        for (Field f : PocketLaws.class.getDeclaredFields()) {
            int m = f.getModifiers();
            CHECK.holds("field " + f.getName(), Modifier.isPrivate(m) || Modifier.isPublic(m));
            CHECK.holds("static field " + f.getName(), !Modifier.isStatic(m) || Modifier.isFinal(m));
            if (Modifier.isPublic(m)) {
                constants.add(f.getName());
            }
        }
        CHECK.holds("the constants are " + constants, constants.equals(Set.of("BAD", "FULL", "NO", "NONE", "STATE")));
        Constructor<?>[] made = PocketLaws.class.getDeclaredConstructors();
        CHECK.holds("one public constructor", made.length == 1 && Modifier.isPublic(made[0].getModifiers()));
        CHECK.holds("final", Modifier.isFinal(PocketLaws.class.getModifiers()));
        noOtherBearsTheirNames(PocketLaws.class, names);
        for (Class<?> inside : PocketLaws.class.getDeclaredClasses()) {
            noOtherBearsTheirNames(inside, names);
        }
    }

    private static void noOtherBearsTheirNames(Class<?> type, Set<String> names) {
        for (Method m : type.getDeclaredMethods()) {
            boolean own = type == PocketLaws.class;
            CHECK.holds("method " + m.getName(), own == Modifier.isPublic(m.getModifiers()) || !names.contains(m.getName()));
            CHECK.holds("not package-visible: " + m.getName(), !own || Modifier.isPublic(m.getModifiers()) || Modifier.isPrivate(m.getModifiers()));
            CHECK.holds("parameters of " + m.getName(), m.getParameterCount() <= 7);
        }
    }

    private static void insideClasses() {
        List<Class<?>> all = new ArrayList<>(List.of(PocketLaws.class.getDeclaredClasses()));
        CHECK.holds("classes", all.size() < 12);
        for (Class<?> inside : all) {
            CHECK.holds("static " + inside, Modifier.isStatic(inside.getModifiers()));
            CHECK.due("classes inside " + inside, inside.getDeclaredClasses().length, 0);
        }
        all.add(PocketLaws.class);
        for (Class<?> type : all) {
            long fields = Arrays.stream(type.getDeclaredFields()).filter(f -> !Modifier.isStatic(f.getModifiers())).count();
            CHECK.holds("fields of " + type, fields <= 20);
        }
    }

    private static String bare(String source) {
        return source.replaceAll("(?s)/\\*.*?\\*/", " ").replaceAll("//[^\n]*", " ").replaceAll("'.'", "0");
    }

    private static void words(String bare) {
        String banned = "throw|throws|try|catch|finally|synchronized|assert|var|record|volatile|native|package|public static void"
            + "|Exact|Object|Thread|System\\.(?!arraycopy)|equals|hashCode|toString";
        Matcher m = Pattern.compile("\\b(" + banned + ")\\b|->|::|\"").matcher(bare);
        while (m.find()) {
            CHECK.holds("word " + m.group(), false);
        }
        Matcher imports = Pattern.compile("import ([^;]*);").matcher(bare);
        while (imports.find()) {
            CHECK.holds("import " + imports.group(1), imports.group(1).equals("java.util.Arrays"));
        }
        Matcher library = Pattern.compile("\\b(Math|Arrays|Integer|Long)\\.(\\w+)").matcher(bare);
        while (library.find()) {
            CHECK.holds(library.group(), Set.of("max", "min", "fill").contains(library.group(2)));
        }
        CHECK.holds("signs", bare.chars().allMatch(c -> c == '\n' || c >= 32 && c < 127));
    }

    private static void methodLengths(String source) {
        String[] lines = source.split("\n");
        int start = -1;
        String end = "";
        for (int i = 0; i < lines.length; i++) {
            if (start < 0 && lines[i].matches(" +.*\\) \\{") && !lines[i].matches(" +(if|for|while|switch|\\}).*")) {
                start = i;
                end = lines[i].replaceAll("\\S.*", "") + "}";
            } else if (start >= 0 && lines[i].equals(end)) {
                CHECK.holds("lines of " + lines[start], i - start < 60);
                start = -1;
            }
        }
        CHECK.holds("every method ends", start < 0);
    }
}
