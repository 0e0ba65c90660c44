import java.lang.reflect.Constructor;
import java.lang.reflect.Field;
import java.lang.reflect.Method;
import java.lang.reflect.Modifier;
import java.nio.file.Files;
import java.nio.file.Path;
import java.util.TreeSet;
import java.util.regex.Matcher;
import java.util.regex.Pattern;

/** The face is the document's, and the file keeps to what can be seen of ../shared/LANGUAGE.md from outside. */
public final class LanguageTest {
    private static final Checks CHECKS = new Checks("LanguageTest");

    public static void main(String[] args) throws Exception {
        CHECKS.holds("the face is the document's", faceOfTheClass().equals(faceOfTheDocument()));
        noPrivateMethodHasAPublicName();
        source(Files.readString(Path.of("src/main/java/DownTheMiddle.java")));
        CHECKS.finish();
    }

    private static TreeSet<String> faceOfTheDocument() throws Exception {
        TreeSet<String> face = new TreeSet<>();
        Matcher block = Pattern.compile("(?s)```java\n(.*?)```").matcher(Files.readString(Path.of("../shared/DOC.md")));
        CHECKS.holds("the document has a face", block.find());
        for (String line : block.group(1).split("\n")) {
            if (line.startsWith("    public ")) {
                face.add(line.strip().replace("public ", "").replaceAll(" \\w+(?=[,)])", "").replace(";", ""));
            }
        }
        return face;
    }

    private static TreeSet<String> faceOfTheClass() throws Exception {
        TreeSet<String> face = new TreeSet<>();
        Class<?> type = DownTheMiddle.class;
        CHECKS.holds("public and final", Modifier.isPublic(type.getModifiers()) && Modifier.isFinal(type.getModifiers()));
        for (Field f : type.getDeclaredFields()) {
            if (!Modifier.isPrivate(f.getModifiers())) {
                face.add("static final " + f.getType() + " " + f.getName() + " = " + f.getInt(null));
            }
        }
        for (Constructor<?> c : type.getDeclaredConstructors()) {
            face.add(type.getName() + parameters(c.getParameterTypes()));
        }
        for (Method m : type.getDeclaredMethods()) {
            if (!Modifier.isPrivate(m.getModifiers())) {
                face.add(m.getReturnType() + " " + m.getName() + parameters(m.getParameterTypes()));
            }
        }
        return face;
    }

    private static String parameters(Class<?>[] types) {
        StringBuilder text = new StringBuilder("(");
        for (Class<?> type : types) {
            text.append(text.length() > 1 ? ", " : "").append(type);
        }
        return text.append(")").toString();
    }

    private static void noPrivateMethodHasAPublicName() {
        TreeSet<String> names = new TreeSet<>();
        for (Method m : DownTheMiddle.class.getDeclaredMethods()) {
            if (Modifier.isPublic(m.getModifiers())) {
                names.add(m.getName());
            }
        }
        for (Class<?> inner : DownTheMiddle.class.getDeclaredClasses()) {
            CHECKS.holds(inner.getName() + " is static", Modifier.isStatic(inner.getModifiers()));
            noPublicName(inner, names);
        }
        noPublicName(DownTheMiddle.class, names);
    }

    private static void noPublicName(Class<?> type, TreeSet<String> names) {
        for (Method m : type.getDeclaredMethods()) {
            boolean isFace = Modifier.isPublic(m.getModifiers());
            CHECKS.holds(type.getName() + "." + m.getName() + " bears no public name", isFace || !names.contains(m.getName()));
        }
    }

    private static void source(String source) {
        String code = source.replaceAll("(?s)/\\*.*?\\*/", " ").replaceAll("//[^\n]*", " ");
        String[] without = {"throw", "catch", "try", "synchronized", "assert", "->", "::", "record", "finally",
            "@", "System.out", "Math.random", "public static void main"};
        for (String word : without) {
            boolean isWord = Character.isLetter(word.charAt(0));
            Pattern pattern = Pattern.compile(isWord ? "\\b" + Pattern.quote(word) + "\\b" : Pattern.quote(word));
            CHECKS.holds("without " + word, !pattern.matcher(code).find());
        }
        Matcher imports = Pattern.compile("import [^;]*;").matcher(code);
        for (int k = 0; imports.find(); k++) {
            CHECKS.holds("imports java.util.Arrays alone", k == 0 && imports.group().equals("import java.util.Arrays;"));
        }
        CHECKS.holds("signs 1 to 127", source.chars().allMatch(c -> c >= 1 && c <= 127));
    }
}
