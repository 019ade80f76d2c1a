import java.io.IOException;
import java.lang.reflect.Constructor;
import java.lang.reflect.Field;
import java.lang.reflect.Method;
import java.lang.reflect.Modifier;
import java.nio.charset.StandardCharsets;
import java.nio.file.Files;
import java.nio.file.Path;
import java.util.Arrays;
import java.util.Set;
import java.util.TreeSet;
import java.util.regex.Matcher;
import java.util.regex.Pattern;

/** The public face is the document's, and the source keeps to the rules that can be seen from its words. */
final class FaceTest {
    private static final Check check = new Check();
    private static final String[] FACE = {
        "row 3", "set 3", "copy 5", "drop 1", "feed 1", "hotel 0", "fault 0", "come 1", "beat 1", "change 1",
        "rain 1", "undo 0", "comer 2", "mat 2", "soil 2", "atOne 2", "leaves 2", "carries 1", "clean 0",
        "order 1", "laying 1", "beating 3", "pacts 1", "could 2", "who 2", "fits 4", "absent 3", "drawn 3",
        "image 1", "restore 1", "kind 1", "as 2", "ask 2", "trace 1", "count 1", "status 0"};

    public static void main(String[] args) throws IOException {
        hasConstants();
        hasTheMethods();
        keepsToTheLanguage();
        check.end();
    }

    private static void hasConstants() {
        check.due("NONE", MatNations.NONE, -1000000);
        check.due("BAD", MatNations.BAD, -1000001);
        check.due("STATE", MatNations.STATE, -1000002);
        check.due("FULL", MatNations.FULL, -1000003);
        Set<String> seen = new TreeSet<>();
        for (Field field : MatNations.class.getDeclaredFields()) {
            if (!Modifier.isPrivate(field.getModifiers())) {
                seen.add(field.getName());
            }
        }
        check.holds("constants " + seen, seen.equals(new TreeSet<>(Arrays.asList("NONE", "BAD", "STATE", "FULL"))));
    }

    private static void hasTheMethods() {
        check.holds("public and final", Modifier.toString(MatNations.class.getModifiers()).equals("public final"));
        Set<String> seen = new TreeSet<>();
        for (Method method : MatNations.class.getDeclaredMethods()) {
            if (!Modifier.isPrivate(method.getModifiers())) {
                boolean ints = Modifier.isPublic(method.getModifiers()) && method.getReturnType() == int.class;
                for (Class<?> type : method.getParameterTypes()) {
                    ints &= type == int.class;
                }
                check.holds(method + " is public, of ints", ints);
                seen.add(method.getName() + " " + method.getParameterCount());
            }
        }
        check.holds("methods " + seen, seen.equals(new TreeSet<>(Arrays.asList(FACE))));
        Constructor<?>[] made = MatNations.class.getDeclaredConstructors();
        check.due("constructors", made.length, 1);
        check.holds("public constructor", Modifier.isPublic(made[0].getModifiers()) && made[0].getParameterCount() == 0);
        namesAreOwn();
    }

    private static void namesAreOwn() {
        Set<String> face = new TreeSet<>();
        for (String one : FACE) {
            face.add(one.substring(0, one.indexOf(' ')));
        }
        for (Class<?> inner : MatNations.class.getDeclaredClasses()) {
            check.holds(inner + " is static", Modifier.isStatic(inner.getModifiers()));
            for (Method method : inner.getDeclaredMethods()) {
                check.holds(method + " has a name of its own", !face.contains(method.getName()));
            }
        }
    }

    private static void keepsToTheLanguage() throws IOException {
        String source = new String(Files.readAllBytes(Path.of("src/main/java/MatNations.java")), StandardCharsets.ISO_8859_1);
        String code = source.replaceAll("(?s)/\\*.*?\\*/", "").replaceAll("//[^\n]*", "");
        String[] refused = {"throw", "throws", "try", "catch", "finally", "synchronized", "assert", "import", "package",
            "System\\.(?!arraycopy)", "Object", "Exact", "->", "::", "null", "MAX_VALUE", "MIN_VALUE", "var", "protected"};
        for (String word : refused) {
            boolean isName = Character.isLetter(word.charAt(0));
            Matcher found = Pattern.compile(isName ? "\\b" + word + "\\b" : word).matcher(code);
            check.holds("no " + word + " in the source", !found.find());
        }
    }
}
