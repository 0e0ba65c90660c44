import java.lang.reflect.Constructor;
import java.lang.reflect.Field;
import java.lang.reflect.Method;
import java.lang.reflect.Modifier;
import java.nio.file.Files;
import java.nio.file.Path;
import java.util.Set;
import java.util.TreeSet;
import java.util.regex.Matcher;
import java.util.regex.Pattern;

/** The face is the document's, and the file keeps to what can be seen of ../shared/LANGUAGE.md from outside. */
public final class LanguageTest {
    private static final Checks CHECKS = new Checks("LanguageTest");
    private static final Set<String> IMPORTS = Set.of("java.util.ArrayList", "java.util.Arrays", "java.util.List",
            "java.util.Iterator", "java.util.NoSuchElementException");

    public static void main(String[] args) throws Exception {
        CHECKS.holds("the face is the document's", faceOfTheClass().equals(faceOfTheDocument()));
        noPrivateMethodHasAPublicName();
        source(Files.readString(Path.of("src/main/java/DownTheMiddle.java")));
        CHECKS.finish();
    }

    private static TreeSet<String> faceOfTheDocument() throws Exception {
        TreeSet<String> face = new TreeSet<>();
        Matcher block = Pattern.compile("(?s)```java\n(.*?)```").matcher(Files.readString(Path.of("../shared/DOC.md")));
        CHECKS.holds("the document has a face", block.find());
        for (String line : block.group(1).split("\n")) {
            if (line.startsWith("    public ")) {
                face.add(line.strip().replace("public ", "").replaceAll(" \\w+(?=[,)])", "").replace(";", ""));
            }
        }
        return face;
    }

    private static TreeSet<String> faceOfTheClass() throws Exception {
        TreeSet<String> face = new TreeSet<>();
        Class<?> type = DownTheMiddle.class;
        CHECKS.holds("public and final", Modifier.isPublic(type.getModifiers()) && Modifier.isFinal(type.getModifiers()));
        for (Field f : type.getDeclaredFields()) {
            if (!Modifier.isPrivate(f.getModifiers())) {
                face.add("static final " + f.getType() + " " + f.getName() + " = " + f.getInt(null));
            }
        }
        for (Constructor<?> c : type.getDeclaredConstructors()) {
            face.add(type.getName() + parameters(c.getParameterTypes()));
        }
        for (Method m : type.getDeclaredMethods()) {
            if (!Modifier.isPrivate(m.getModifiers()) && !m.isSynthetic()) {
                face.add(m.getReturnType() + " " + m.getName() + parameters(m.getParameterTypes()));
            }
        }
        return face;
    }

    private static String parameters(Class<?>[] types) {
        StringBuilder text = new StringBuilder("(");
        for (Class<?> type : types) {
            text.append(text.length() > 1 ? ", " : "").append(type);
        }
        return text.append(")").toString();
    }

    private static void noPrivateMethodHasAPublicName() {
        TreeSet<String> names = new TreeSet<>();
        for (Method m : DownTheMiddle.class.getDeclaredMethods()) {
            if (Modifier.isPublic(m.getModifiers())) {
                names.add(m.getName());
            }
        }
        for (Method m : DownTheMiddle.class.getDeclaredMethods()) {
            CHECKS.holds(m + " bears no public name", Modifier.isPublic(m.getModifiers()) || !names.contains(m.getName()));
        }
    }

    private static void source(String source) {
        String code = source.replaceAll("(?s)/\\*.*?\\*/", " ").replaceAll("//[^\n]*", " ");
        for (String word : new String[] {"synchronized", "assert", "finally", "::", "Math.random", "System.out", "Thread"}) {
            boolean isWord = Character.isLetter(word.charAt(0));
            Pattern pattern = Pattern.compile(isWord ? "\\b" + Pattern.quote(word) + "\\b" : Pattern.quote(word));
            CHECKS.holds("without " + word, !pattern.matcher(code).find());
        }
        Matcher imports = Pattern.compile("import ([^;]*);").matcher(code);
        while (imports.find()) {
            CHECKS.holds("may import " + imports.group(1), IMPORTS.contains(imports.group(1)));
        }
        CHECKS.holds("without a package", !Pattern.compile("^package\\b").matcher(code).find());
        CHECKS.holds("signs 1 to 127", source.chars().allMatch(c -> c >= 1 && c <= 127));
    }
}
