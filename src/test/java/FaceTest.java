import java.io.IOException;
import java.lang.reflect.Constructor;
import java.lang.reflect.Field;
import java.lang.reflect.Method;
import java.lang.reflect.Modifier;
import java.nio.file.Files;
import java.nio.file.Path;
import java.util.ArrayList;
import java.util.Arrays;
import java.util.Collections;
import java.util.List;
import java.util.regex.Matcher;
import java.util.regex.Pattern;

/** The public face of the document, and those rules of LANGUAGE.md that can be seen without reading for sense. */
public final class FaceTest {
    private static final String SOURCE = "src/main/java/LampLatitudes.java";
    private static final String[] METHODS = {
        "set(int,int)", "star(int)", "cloud(int)", "navigator(int,int,int)", "sleep(int)", "goal(int)", "sight(int,int)",
        "agree()", "sail(int)", "night()", "of(int,int)", "ofStar(int,int)", "log(int,int)", "count(int)", "why(int,int)",
        "ifSighted(int,int)", "median(int)", "bestStar()", "nearest(int)", "arrivesIn(int)", "put(long)", "wipe()",
        "fault()", "carryOut()", "undo()", "save(int)", "restore(int)",
    };
    private static final String[] CONSTANTS = {
        "NO_SUCH=-1", "BAD_VALUE=-2", "BAD_TEXT=-3", "TOO_MANY=-4", "NOT_POSSIBLE=-5", "NONE=-6",
        "DRIFT=0", "PULL=1", "QUARREL=2", "LOW=3",
    };
    private static final String[] FORBIDDEN = {
        "\\b(throw|throws|try|catch|synchronized|assert|import|package|protected|native|volatile|transient)\\b",
        "->", "::", "\\bequals\\b", "\\bhashCode\\b", "\\btoString\\b", "\\bException\\b", "\\bclone\\(\\)\\.",
        "\\bSystem\\.(?!arraycopy)", "\\bstatic \\{", "[^\\x00-\\x7f]", "while \\(true\\)", "for \\(;;\\)",
    };

    public static void main(String[] args) throws Exception {
        methods();
        constants();
        constructors();
        classesInside();
        source();
        Due.end();
    }

    private static void methods() {
        List<String> found = new ArrayList<>();
        List<String> names = new ArrayList<>();
        for (Method method : LampLatitudes.class.getDeclaredMethods()) {
            if (Modifier.isPublic(method.getModifiers())) {
                found.add(signature(method));
                names.add(method.getName());
                Due.due(method + " returns", method.getReturnType().getName(), "int");
            } else {
                Due.due(method + " is private", Modifier.isPrivate(method.getModifiers()) ? 1 : 0, 1);
            }
        }
        List<String> wanted = new ArrayList<>(Arrays.asList(METHODS));
        Collections.sort(found);
        Collections.sort(wanted);
        Due.due("the public methods", found.toString(), wanted.toString());
        privateNames(LampLatitudes.class, names);
        for (Class<?> inside : LampLatitudes.class.getDeclaredClasses()) {
            privateNames(inside, names);
        }
    }

    private static void privateNames(Class<?> owner, List<String> publicNames) {
        for (Method method : owner.getDeclaredMethods()) {
            boolean taken = !Modifier.isPublic(method.getModifiers()) && publicNames.contains(method.getName());
            Due.due(method + " bears the name of a public one", taken ? 1 : 0, 0);
            Due.due(method + " has more than seven parameters", method.getParameterCount() > 7 ? 1 : 0, 0);
        }
    }

    private static String signature(Method method) {
        StringBuilder text = new StringBuilder(method.getName()).append('(');
        for (Class<?> type : method.getParameterTypes()) {
            text.append(text.charAt(text.length() - 1) == '(' ? "" : ",").append(type.getName());
        }
        return text.append(')').toString();
    }

    private static void constants() throws IllegalAccessException {
        List<String> found = new ArrayList<>();
        for (Field field : LampLatitudes.class.getDeclaredFields()) {
            int modifiers = field.getModifiers();
            if (Modifier.isPublic(modifiers)) {
                Due.due(field + " is a constant", Modifier.isStatic(modifiers) && Modifier.isFinal(modifiers) ? 1 : 0, 1);
                found.add(field.getName() + "=" + field.getInt(null));
            } else {
                Due.due(field + " is private", Modifier.isPrivate(modifiers) ? 1 : 0, 1);
            }
        }
        List<String> wanted = new ArrayList<>(Arrays.asList(CONSTANTS));
        Collections.sort(found);
        Collections.sort(wanted);
        Due.due("the constants", found.toString(), wanted.toString());
    }

    private static void constructors() {
        Constructor<?>[] constructors = LampLatitudes.class.getDeclaredConstructors();
        Due.due("constructors", constructors.length, 1);
        Due.due("public without parameters", constructors[0].toString(), "public LampLatitudes()");
        int modifiers = LampLatitudes.class.getModifiers();
        Due.due("public and final", Modifier.isPublic(modifiers) && Modifier.isFinal(modifiers) ? 1 : 0, 1);
    }

    private static void classesInside() {
        Class<?>[] inside = LampLatitudes.class.getDeclaredClasses();
        Due.due("more than twelve classes", inside.length + 1 > 12 ? 1 : 0, 0);
        for (Class<?> one : inside) {
            int modifiers = one.getModifiers();
            Due.due(one + " is static", Modifier.isStatic(modifiers) ? 1 : 0, 1);
            Due.due(one + " is public or protected",
                Modifier.isPublic(modifiers) || Modifier.isProtected(modifiers) ? 1 : 0, 0);
            int fields = 0;
            for (Field field : one.getDeclaredFields()) {
                fields += Modifier.isStatic(field.getModifiers()) ? 0 : 1;
                boolean changes = Modifier.isStatic(field.getModifiers()) && !Modifier.isFinal(field.getModifiers());
                Due.due(field + " is static and not final", changes ? 1 : 0, 0);
            }
            Due.due(one + " has more than twenty fields", fields > 20 ? 1 : 0, 0);
        }
    }

    private static void source() throws IOException {
        String text = Files.readString(Path.of(SOURCE)).replaceAll("/\\*\\*.*?\\*/|//[^\n]*", "");
        for (String forbidden : FORBIDDEN) {
            Matcher matcher = Pattern.compile(forbidden).matcher(text);
            Due.due("the source has " + forbidden, matcher.find() ? matcher.group() : "nothing", "nothing");
        }
    }
}
