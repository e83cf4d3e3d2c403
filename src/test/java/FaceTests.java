import java.io.IOException;
import java.lang.reflect.Constructor;
import java.lang.reflect.Field;
import java.lang.reflect.Method;
import java.lang.reflect.Modifier;
import java.nio.file.Files;
import java.nio.file.Path;
import java.util.Arrays;
import java.util.HashSet;
import java.util.Set;
import java.util.TreeSet;
import java.util.regex.Matcher;
import java.util.regex.Pattern;

/** The class has the document's face and no other, and keeps to what LANGUAGE.md rules of its text. */
public final class FaceTests {
    private static final String[] FACE = {"letter 1", "evening 0", "person 2", "liking 2", "like 3", "order 2", "law 1",
        "meets 2", "felt 2", "yeses 2", "pairs 1", "glad 2", "shaded 0", "bestOrder 0", "ranks 1", "asked 1", "firm 0",
        "row 1", "rather 0", "truly 2", "judge 0", "clear 0", "lots 2", "image 0", "on 0", "count 1"};
    private static final String[] BANNED = {"throw", "throws", "try", "catch", "synchronized", "assert", "import", "package",
        "protected", "new Random", "Exact", "System\\.(?!arraycopy)", "->", "::", "\\bvar\\b", "\\brecord\\b", "@"};

    public static void main(String[] args) throws IOException {
        face();
        inside();
        text(Files.readString(Path.of("src/main/java/EightMinutes.java")));
        Due.end();
    }

    private static void face() {
        Class<?> face = EightMinutes.class;
        Due.holds("public and final", face.getModifiers() == (Modifier.PUBLIC | Modifier.FINAL));
        Set<String> open = new TreeSet<>();
        for (Method method : face.getDeclaredMethods()) {
            int modifiers = method.getModifiers();
            if (Modifier.isPrivate(modifiers)) {
                continue;
            }
            open.add(method.getName() + " " + method.getParameterCount());
            Due.holds(method + " is public only", modifiers == Modifier.PUBLIC);
            Due.holds(method + " answers an int", method.getReturnType() == int.class);
            for (Class<?> type : method.getParameterTypes()) {
                Due.holds(method + " takes ints", type == int.class);
            }
        }
        Due.holds("methods are the document's: " + open, open.equals(new TreeSet<>(Arrays.asList(FACE))));
        for (Constructor<?> constructor : face.getDeclaredConstructors()) {
            Due.holds("the constructor takes nothing", constructor.getParameterCount() == 0);
            Due.holds("the constructor is public", Modifier.isPublic(constructor.getModifiers()));
        }
        for (Field field : face.getDeclaredFields()) {
            Due.holds(field + " is private", Modifier.isPrivate(field.getModifiers()));
        }
    }

    private static void inside() {
        Set<String> names = new HashSet<>();
        for (String method : FACE) {
            names.add(method.substring(0, method.indexOf(' ')));
        }
        Class<?>[] classes = Arrays.copyOf(EightMinutes.class.getDeclaredClasses(), EightMinutes.class.getDeclaredClasses().length + 1);
        classes[classes.length - 1] = EightMinutes.class;
        Due.holds("some twelve classes", classes.length <= 12);
        for (Class<?> one : classes) {
            boolean isFace = one == EightMinutes.class;
            Due.holds(one + " is static", isFace || Modifier.isStatic(one.getModifiers()));
            Due.holds(one + " is not public", isFace || !Modifier.isPublic(one.getModifiers()));
            int kept = 0;
            for (Field field : one.getDeclaredFields()) {
                boolean isStatic = Modifier.isStatic(field.getModifiers());
                kept += isStatic ? 0 : 1;
                Due.holds(field + " is final if static", !isStatic || Modifier.isFinal(field.getModifiers()));
            }
            Due.holds(one + " has some twenty fields", kept <= 20);
            for (Method method : one.getDeclaredMethods()) {
                boolean isOfFace = isFace && Modifier.isPublic(method.getModifiers());
                Due.holds(method + " bears no name of the face", isOfFace || !names.contains(method.getName()));
                Due.holds(method + " takes seven at most", method.getParameterCount() <= 7);
            }
        }
    }

    private static void text(String source) {
        String code = source.replaceAll("(?s)/\\*.*?\\*/", "").replaceAll("//[^\n]*", "");
        for (String banned : BANNED) {
            String pattern = banned.matches("[a-z]+") ? "\\b" + banned + "\\b" : banned;
            Matcher matcher = Pattern.compile(pattern).matcher(code);
            Due.holds("no " + banned, !matcher.find());
        }
        for (String line : code.split("\n")) {
            boolean isMaking = line.matches(".*\\bnew\\b.*");
            Due.holds("made once, with the object: " + line, !isMaking || line.matches(" +(private )?final [^=]+ = new .*"));
        }
        for (int i = 0; i < source.length(); i++) {
            if (source.charAt(i) > 127) {
                Due.holds("a sign above 127 at " + i, false);
            }
        }
        Due.holds("no joining of texts by +", !Pattern.compile("\"\\s*\\+|\\+\\s*\"").matcher(code).find());
    }
}
