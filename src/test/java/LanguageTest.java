import java.io.IOException;
import java.lang.reflect.Constructor;
import java.lang.reflect.Field;
import java.lang.reflect.Method;
import java.lang.reflect.Modifier;
import java.nio.file.Files;
import java.nio.file.Path;
import java.util.Arrays;
import java.util.List;
import java.util.TreeSet;
import java.util.regex.Matcher;
import java.util.regex.Pattern;

/** The rules of LANGUAGE.md that can be seen from the source's words and from the class file. */
public final class LanguageTest {
    private static final String FACE = "ask back best beyond cold count end fault feed flight held image late least likely "
        + "line more odds of parts picture point ring row says seen send sheet slip status talk talked talker tenths terms "
        + "text times worlds";

    private LanguageTest() {
    }

    public static void main(String[] args) throws IOException {
        String source = Files.readString(Path.of("src/main/java/ColdRing.java"));
        words(source);
        face();
        classes();
        methodLengths(source);
        Check.finish("LanguageTest");
    }

    private static void words(String source) {
        String bare = source.replaceAll("(?s)/\\*.*?\\*/", "").replaceAll("//[^\n]*", "").replaceAll("\"[^\"\n]*\"", "\"\"");
        for (String word : List.of("throw", "throws", "try", "catch", "synchronized", "assert", "package", "native",
            "volatile", "transient", "Random", "Thread", "Exact", "Object", "equals", "hashCode", "toString")) {
            Check.due("the word " + word, Pattern.compile("\\b\\w*" + word + "\\b").matcher(bare).results()
                .filter(m -> m.group().equals(word) || word.equals("Exact")).count(), 0);
        }
        Check.due("arrows and method references", bare.contains("->") || bare.contains("::") ? 1 : 0, 0);
        Check.due("joined texts", bare.contains("\" +") || bare.contains("+ \"") ? 1 : 0, 0);
        Matcher imports = Pattern.compile("import ([^;]+);").matcher(bare);
        while (imports.find()) {
            Check.due("import of " + imports.group(1), imports.group(1).equals("java.util.Arrays") ? 1 : 0, 1);
        }
        Check.due("signs above 126", source.chars().filter(c -> c > 126).count(), 0);
    }

    private static void face() {
        TreeSet<String> names = new TreeSet<>(Arrays.asList(FACE.split(" ")));
        TreeSet<String> found = new TreeSet<>();
        Check.due("final", Modifier.isFinal(ColdRing.class.getModifiers()) ? 1 : 0, 1);
        for (Method m : ColdRing.class.getDeclaredMethods()) {
            boolean open = Modifier.isPublic(m.getModifiers());
            boolean shut = Modifier.isPrivate(m.getModifiers());
            Check.due(m + " is public or private", open || shut || m.isSynthetic() ? 1 : 0, 1);
            Check.due(m + " is of the face if public", open == names.contains(m.getName()) ? 1 : 0, 1);
            Check.due(m + " answers a number", !open
                || m.getReturnType() == (m.getName().equals("cold") ? long.class : int.class) ? 1 : 0, 1);
            if (open) {
                found.add(m.getName());
            }
        }
        Check.due("the whole face", found.equals(names) ? 1 : 0, 1);
        for (Field f : ColdRing.class.getDeclaredFields()) {
            Check.due(f + " is private", Modifier.isPrivate(f.getModifiers()) || f.getName().equals("NONE") ? 1 : 0, 1);
        }
        Constructor<?>[] made = ColdRing.class.getDeclaredConstructors();
        Check.due("constructors", made.length, 1);
        Check.due("NONE", ColdRing.NONE, -1);
    }

    private static void classes() {
        TreeSet<String> names = new TreeSet<>(Arrays.asList(FACE.split(" ")));
        Class<?>[] inside = ColdRing.class.getDeclaredClasses();
        Check.due("more than twelve classes", Math.max(0, inside.length + 1 - 12), 0);
        for (Class<?> c : inside) {
            Check.due(c + " is static", Modifier.isStatic(c.getModifiers()) ? 1 : 0, 1);
            long fields = Arrays.stream(c.getDeclaredFields()).filter(f -> !Modifier.isStatic(f.getModifiers())).count();
            Check.due(c + " has more than twenty fields", Math.max(0, fields - 20), 0);
            for (Field f : c.getDeclaredFields()) {
                Check.due(f + " is final if static",
                    !Modifier.isStatic(f.getModifiers()) || Modifier.isFinal(f.getModifiers()) ? 1 : 0, 1);
            }
            for (Method m : c.getDeclaredMethods()) {
                Check.due(m + " has a name of the face", names.contains(m.getName()) ? 1 : 0, 0);
                Check.due(m + " takes more than seven", Math.max(0, m.getParameterCount() - 7), 0);
            }
        }
    }

    /** A method starts with a line that ends in "{" behind a ")" and ends with a "}" as far to the right. */
    private static void methodLengths(String source) {
        String[] lines = source.split("\n");
        for (int i = 0; i < lines.length; i++) {
            Matcher m = Pattern.compile("^( {4}| {8})\\w[\\w\\[\\] ]*\\(.*\\) \\{$").matcher(lines[i]);
            if (m.matches()) {
                int end = i;
                while (!lines[end].equals(m.group(1) + "}")) {
                    end++;
                }
                Check.due("lines above sixty of" + lines[i], Math.max(0, end - i + 1 - 60), 0);
            }
        }
    }
}
