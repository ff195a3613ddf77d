import java.io.IOException;
import java.lang.reflect.Constructor;
import java.lang.reflect.Field;
import java.lang.reflect.Method;
import java.lang.reflect.Modifier;
import java.nio.file.Files;
import java.nio.file.Path;
import java.util.Map;
import java.util.Set;
import java.util.TreeMap;
import java.util.TreeSet;
import java.util.regex.Matcher;
import java.util.regex.Pattern;

/** The face is the document's and no more, and the program keeps to what can be seen of LANGUAGE.md. */
public final class FaceTest {
    private static final String METHODS = "feed5 end1 laws1 fault1 law2 player0 wrong7 sign7 choose1 waive1 "
            + "hurt2 about2 club3 trade0 give2 giveTurn4 check0 gain1 deal0 worth3 worthTurn4 ring0 ringed1 table0 "
            + "chance3 draw2 turn3 owner3 next0 purse1 count1";

    public static void main(String[] args) throws IOException {
        members();
        constants();
        names();
        source();
        Due.done();
    }

    private static void members() {
        Set<String> found = new TreeSet<>();
        for (Method method : CapLeague.class.getDeclaredMethods()) {
            if (Modifier.isPublic(method.getModifiers())) {
                found.add(method.getName() + method.getParameterCount());
                boolean isLong = method.getName().equals("chance");
                Due.holds(method + " answers", method.getReturnType() == (isLong ? long.class : int.class));
            } else {
                Due.holds(method + " is private", Modifier.isPrivate(method.getModifiers()) || method.isSynthetic());
            }
        }
        Due.holds("methods " + found, found.equals(new TreeSet<>(Set.of(METHODS.split(" ")))));
        for (Constructor<?> made : CapLeague.class.getDeclaredConstructors()) {
            Due.is(made + " arguments", made.getParameterCount(), 0);
        }
        Due.holds("public and final", CapLeague.class.getModifiers() == (Modifier.PUBLIC | Modifier.FINAL));
        Due.holds("about twelve classes", CapLeague.class.getDeclaredClasses().length <= 12);
        for (Class<?> inside : CapLeague.class.getDeclaredClasses()) {
            Due.holds(inside + " is static", Modifier.isStatic(inside.getModifiers()));
            Due.holds(inside + " is not public", !Modifier.isPublic(inside.getModifiers()));
            fields(inside);
        }
        fields(CapLeague.class);
    }

    private static void fields(Class<?> of) {
        int own = 0;
        for (Field field : of.getDeclaredFields()) {
            boolean isStatic = Modifier.isStatic(field.getModifiers());
            Due.holds(field + " is final if static", !isStatic || Modifier.isFinal(field.getModifiers()));
            own += isStatic ? 0 : 1;
        }
        Due.holds(of + " has few fields", own <= 20);
    }

    private static void constants() {
        Map<String, Integer> due = new TreeMap<>(Map.of("NONE", -1, "RANGE", -2, "FULL", -3, "STATE", -4));
        for (Field field : CapLeague.class.getDeclaredFields()) {
            if (!Modifier.isPrivate(field.getModifiers())) {
                Due.holds(field + " is a constant of the face", due.remove(field.getName()) != null);
            }
        }
        Due.is("constants that are missing", due.size(), 0);
        Due.is("NONE", CapLeague.NONE, -1);
        Due.is("RANGE", CapLeague.RANGE, -2);
        Due.is("FULL", CapLeague.FULL, -3);
        Due.is("STATE", CapLeague.STATE, -4);
    }

    private static void names() {
        Set<String> face = new TreeSet<>();
        for (String method : METHODS.split(" ")) {
            face.add(method.substring(0, method.length() - 1));
        }
        for (Class<?> inside : CapLeague.class.getDeclaredClasses()) {
            for (Method method : inside.getDeclaredMethods()) {
                Due.holds(method + " has a name of its own", !face.contains(method.getName()));
                Due.holds(method + " has few parameters", method.getParameterCount() <= 7);
            }
        }
    }

    private static void source() throws IOException {
        String text = Files.readString(Path.of("src/main/java/CapLeague.java"));
        String code = text.replaceAll("(?s)/\\*.*?\\*/", "").replaceAll("//[^\n]*", "");
        Matcher ruled = Pattern.compile("\\b(throw|throws|try|catch|synchronized|assert|import|package|protected|"
                + "Object|Exact|hashCode|toString|volatile|native|finally)\\b|->|::").matcher(code);
        while (ruled.find()) {
            Due.holds("'" + ruled.group() + "' stands in the program", false);
        }
        Due.holds("signs 1 to 127", text.chars().allMatch(sign -> sign > 0 && sign < 128));
    }
}
