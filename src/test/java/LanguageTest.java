import java.lang.reflect.Constructor;
import java.lang.reflect.Field;
import java.lang.reflect.Method;
import java.lang.reflect.Modifier;
import java.nio.charset.StandardCharsets;
import java.nio.file.Files;
import java.nio.file.Path;
import java.util.Set;
import java.util.TreeSet;
import java.util.regex.Matcher;
import java.util.regex.Pattern;

/**
 * Rules of LANGUAGE.md that can be seen from outside: the face, what the source may not hold, that arrays are used
 * only through cell() and put(), and that nothing is made but in the fields of a new object and in a throw.
 */
public final class LanguageTest {
    private static final Set<String> FACE = Set.of("feed", "house", "sheets", "fault", "count", "person", "sitting",
        "law", "isSaid", "weight", "one", "held", "foretold", "sheet", "tell", "value", "drawn", "credit", "fails", "apart",
        "beside", "wished", "slope", "share", "parts", "next", "looked", "at", "falls", "spans", "cold", "image", "restore");

    private static void face() {
        Set<String> names = new TreeSet<>();
        for (Method m : RubberHall.class.getDeclaredMethods()) {
            if (Modifier.isPublic(m.getModifiers())) {
                names.add(m.getName());
                Check.due(m.getName() + " is static", Modifier.isStatic(m.getModifiers()), false);
            } else {
                Check.due(m.getName() + " is private", Modifier.isPrivate(m.getModifiers()), true);
                Check.due(m.getName() + " is private and of the face", FACE.contains(m.getName()), false);
            }
        }
        Check.due("the methods of the face: " + names, names.equals(FACE), true);
        for (Field f : RubberHall.class.getDeclaredFields()) {
            Check.due("field " + f.getName(), f.getName().equals("NONE") || Modifier.isPrivate(f.getModifiers()), true);
        }
        Check.due("fields", fieldsOf(RubberHall.class) <= 20, true);
        Check.due("classes", RubberHall.class.getDeclaredClasses().length <= 11, true);
        for (Class<?> c : RubberHall.class.getDeclaredClasses()) {
            Check.due(c + " is static", Modifier.isStatic(c.getModifiers()) && !Modifier.isPublic(c.getModifiers()), true);
            Check.due(c + " has few fields", fieldsOf(c) <= 20, true);
            for (Method m : c.getDeclaredMethods()) {
                Check.due(c + "." + m.getName() + " is of the face", FACE.contains(m.getName()), false);
                Check.due(c + "." + m.getName() + " takes few", m.getParameterCount() <= 7, true);
            }
        }
        Constructor<?>[] made = RubberHall.class.getConstructors();
        Check.due("one constructor", made.length == 1 && made[0].getParameterCount() == 0, true);
    }

    private static long fieldsOf(Class<?> c) {
        return java.util.Arrays.stream(c.getDeclaredFields()).filter(f -> !Modifier.isStatic(f.getModifiers())).count();
    }

    private static void hasNot(String source, String regex) {
        Matcher m = Pattern.compile(regex).matcher(source);
        boolean found = m.find();
        Check.due("the source has " + regex + (found ? " at " + line(source, m.start()) : ""), found, false);
    }

    private static String line(String source, int at) {
        int from = source.lastIndexOf('\n', at) + 1;
        int to = source.indexOf('\n', at);
        return source.substring(from, to < 0 ? source.length() : to).trim();
    }

    private static void source(String file) throws Exception {
        String whole = Files.readString(Path.of(file), StandardCharsets.UTF_8);
        Check.due("signs beyond 127", whole.chars().anyMatch(c -> c > 126), false);
        // comments and texts hold no code
        String source = whole.replaceAll("(?s)/\\*.*?\\*/", "").replaceAll("//[^\n]*", "").replaceAll("\"[^\"\n]*\"", "\"\"");
        hasNot(source, "\\b(try|catch|finally|synchronized|assert|instanceof|package|native|record|float|double)\\b");
        hasNot(source, "->|::|@|\\.\\.\\.");
        hasNot(source, "\\bSystem\\.(?!arraycopy\\b)");
        hasNot(source, "\\b(Random|Thread|Object|getClass|hashCode|equals|toString|StringBuilder|List|Map|Integer)\\b");
        hasNot(source, "Exact\\b");
        hasNot(source, "\"\\s*\\+|\\+\\s*\"");
        Matcher imports = Pattern.compile("import ([^;]*);").matcher(source);
        while (imports.find()) {
            Check.due("import " + imports.group(1), imports.group(1).equals("java.util.NoSuchElementException"), true);
        }
        Matcher news = Pattern.compile("\\bnew\\b").matcher(source);
        while (news.find()) {
            String line = line(source, news.start());
            boolean field = line.matches("private final [\\w\\[\\]]+ \\w+ = new \\w+(\\(\\)|\\[[\\w *]+\\]);");
            boolean thrown = line.matches("throw new (NoSuchElement|IllegalArgument)Exception\\(\\);");
            Check.due("made in a call: " + line, field || thrown, true);
        }
        // an element of an array: a name and an index; but for the tape's, only cell() and put() have such
        Matcher elements = Pattern.compile("\\w\\[[^\\]]+\\]").matcher(source.replaceAll("new \\w+\\[[^\\]]*\\]", "new"));
        while (elements.find()) {
            String element = elements.group();
            Check.due("an untested element " + element, element.equals("w[index]") || element.equals("s[size]")
                || element.equals("s[index]"), true);
        }
    }

    public static void main(String[] args) throws Exception {
        face();
        source(args.length > 0 ? args[0] : "src/main/java/RubberHall.java");
        Check.end("LanguageTest");
    }
}
