import java.io.IOException;
import java.lang.reflect.Constructor;
import java.lang.reflect.Field;
import java.lang.reflect.Method;
import java.lang.reflect.Modifier;
import java.nio.file.Files;
import java.nio.file.Path;
import java.util.ArrayList;
import java.util.HashSet;
import java.util.List;
import java.util.Set;
import java.util.regex.Matcher;
import java.util.regex.Pattern;

/** The face of the class is the document's, and its file keeps to what of LANGUAGE.md can be seen by a program. */
public final class FaceTest {
    private static final Due due = new Due("FaceTest");
    private static final Path SOURCE = Path.of("src/main/java/OvenRings.java");
    private static final Path DOCUMENT = Path.of("../shared/DOC.md");

    public static void main(String[] args) throws IOException {
        faceIsTheDocuments();
        nothingElseIsSeen();
        shapeIsWithinLimits();
        wordsAreOfTheLanguage();
        due.ends();
    }

    private static void faceIsTheDocuments() throws IOException {
        Set<String> wanted = new HashSet<>();
        Matcher m = Pattern.compile("(?m)^    public (int \\w+\\([^)]*\\));$").matcher(Files.readString(DOCUMENT));
        while (m.find()) {
            wanted.add(m.group(1).replaceAll("(int|long) \\w+([,)])", "$1$2"));
        }
        Set<String> got = new HashSet<>();
        for (Method method : OvenRings.class.getDeclaredMethods()) {
            if (Modifier.isPublic(method.getModifiers())) {
                List<String> types = new ArrayList<>();
                for (Class<?> type : method.getParameterTypes()) {
                    types.add(type.getName());
                }
                got.add(method.getReturnType() + " " + method.getName() + "(" + String.join(", ", types) + ")");
            }
        }
        due.is("methods of the document", wanted.size(), 42);
        due.is("methods as in the document: " + got, got.equals(wanted) ? 1 : 0, 1);
        due.is("constructors", OvenRings.class.getDeclaredConstructors().length, 1);
        Constructor<?> made = OvenRings.class.getDeclaredConstructors()[0];
        due.is("constructor is public", made.getModifiers() & Modifier.PUBLIC, Modifier.PUBLIC);
        due.is("constructor takes", made.getParameterCount(), 0);
        int kind = OvenRings.class.getModifiers();
        due.is("class is public and final", kind, Modifier.PUBLIC | Modifier.FINAL);
        due.is("class has no package", OvenRings.class.getPackageName().length(), 0);
    }

    private static void nothingElseIsSeen() {
        Set<String> open = new HashSet<>();
        for (Method method : OvenRings.class.getDeclaredMethods()) {
            if (Modifier.isPublic(method.getModifiers())) {
                open.add(method.getName());
            }
        }
        for (Method method : OvenRings.class.getDeclaredMethods()) {
            if (!Modifier.isPublic(method.getModifiers())) {
                due.is(method + " is private", method.getModifiers() & Modifier.PRIVATE, Modifier.PRIVATE);
                due.is(method + " bears a public name", open.contains(method.getName()) ? 1 : 0, 0);
            }
        }
        for (Field field : OvenRings.class.getDeclaredFields()) {
            due.is(field + " is private", field.getModifiers() & Modifier.PRIVATE, Modifier.PRIVATE);
        }
        for (Class<?> inside : OvenRings.class.getDeclaredClasses()) {
            due.is(inside + " is static", inside.getModifiers() & Modifier.STATIC, Modifier.STATIC);
            due.is(inside + " is public", inside.getModifiers() & (Modifier.PUBLIC | Modifier.PROTECTED), 0);
            for (Method method : inside.getDeclaredMethods()) {
                due.is(method + " bears a public name", open.contains(method.getName()) ? 1 : 0, 0);
            }
        }
    }

    private static void shapeIsWithinLimits() {
        List<Class<?>> all = new ArrayList<>(List.of(OvenRings.class.getDeclaredClasses()));
        all.add(OvenRings.class);
        due.is("at most twelve classes, there are " + all.size(), all.size() <= 12 ? 1 : 0, 1);
        for (Class<?> one : all) {
            int own = 0;
            for (Field field : one.getDeclaredFields()) {
                boolean isStatic = Modifier.isStatic(field.getModifiers());
                own += isStatic ? 0 : 1;
                boolean isKept = !isStatic || Modifier.isFinal(field.getModifiers());
                due.is(field + " is final, being static", isKept ? 1 : 0, 1);
            }
            due.is(one + " has at most twenty fields", own <= 20 ? 1 : 0, 1);
            for (Method method : one.getDeclaredMethods()) {
                due.is(method + " takes at most seven", method.getParameterCount() <= 7 ? 1 : 0, 1);
            }
        }
    }

    private static void wordsAreOfTheLanguage() throws IOException {
        String source = Files.readString(SOURCE);
        for (int i = 0; i < source.length(); i++) {
            if (source.charAt(i) > 127) {
                due.is("sign " + i + " of the source", source.charAt(i), '?');
            }
        }
        String code = source.replaceAll("(?s)/\\*.*?\\*/", "").replaceAll("//[^\n]*", "");
        String words = "throw|throws|try|catch|finally|synchronized|assert|import|package|instanceof|volatile"
            + "|native|transient|goto|var|yield|record|sealed|permits|Exception|Error|Object|Thread|Random"
            + "|equals|hashCode|toString|addExact|multiplyExact|toIntExact|currentTimeMillis|nanoTime";
        Matcher m = Pattern.compile("\\b(" + words + ")\\b|->|::|@|while \\(true\\)|for \\(;;\\)").matcher(code);
        while (m.find()) {
            due.is("the source says " + m.group(), 1, 0);
        }
        longestMethod(source);
    }

    /** Methods of this file begin and end on lines of their own, by how far they are set in. */
    private static void longestMethod(String source) {
        String[] lines = source.split("\n");
        int begun = -1;
        String end = "";
        for (int i = 0; i < lines.length; i++) {
            String line = lines[i];
            if (begun < 0 && line.matches(" {4,8}[a-z].*\\) \\{") && !line.contains("class ")) {
                begun = i;
                end = line.replaceAll("\\S.*", "") + "}";
            } else if (begun >= 0 && line.equals(end)) {
                due.is("lines from " + (begun + 1) + " are a short method", i - begun < 60 ? 1 : 0, 1);
                begun = -1;
            }
        }
    }
}
