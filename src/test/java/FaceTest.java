import java.io.IOException;
import java.lang.reflect.Constructor;
import java.lang.reflect.Field;
import java.lang.reflect.Method;
import java.lang.reflect.Modifier;
import java.nio.file.Files;
import java.nio.file.Path;
import java.util.ArrayList;
import java.util.List;
import java.util.Set;
import java.util.TreeSet;

/** The public face of the document, and those rules of LANGUAGE.md that can be seen from outside. */
public final class FaceTest {
    private static final String[] FACE = {
        "int subscriber()", "int give(int, int)", "int house(int, int, int)", "boolean look(int, int)",
        "boolean hand(int, int)", "boolean lose(int)", "boolean propose(int, int)", "boolean vote(int, boolean)",
        "int close()", "int due(int)", "int store(int, int)", "boolean frost(int)", "int forecast(int)",
        "int cook(int, int)", "int show(int)", "int go(int)", "int visitor(int, int, int)", "int visits(int)",
        "int far(int)", "int entry(int, int)", "int same(int, int)", "int joined(int)", "int card(int, int)",
        "int told(int, int)", "int gave(int, int)", "int ward(int, int)", "int count(int)",
    };
    private static final String[] RULED_OUT = {
        "\\bthrow\\b", "\\btry\\b", "\\bcatch\\b", "\\bsynchronized\\b", "\\bassert\\b", "\\bimport\\b",
        "\\bpackage\\b", "->", "::", "\\brecord\\b", "\\bThread\\b", "\\bException\\b",
    };
    private static int wrong = 0;

    private static void check(boolean holds, String what) {
        if (!holds) {
            wrong++;
            System.out.println("not so: " + what);
        }
    }

    public static void main(String[] args) throws IOException {
        checkFace();
        Class<?>[] inside = SoupTickets.class.getDeclaredClasses();
        check(inside.length + 1 <= 12, "at most twelve classes");
        checkClass(SoupTickets.class);
        for (Class<?> one : inside) {
            int modifiers = one.getModifiers();
            check(Modifier.isStatic(modifiers), one + " is static");
            check(!Modifier.isPublic(modifiers) && !Modifier.isProtected(modifiers), one + " isn't public");
            checkClass(one);
        }
        checkSource();
        System.out.println(wrong == 0 ? "the face is as told" : wrong + " things are not as told");
        if (wrong != 0) {
            System.exit(1);
        }
    }

    private static String told(Method method) {
        List<String> types = new ArrayList<>();
        for (Class<?> type : method.getParameterTypes()) {
            types.add(type.getSimpleName());
        }
        return method.getReturnType().getSimpleName() + " " + method.getName() + "(" + String.join(", ", types) + ")";
    }

    private static void checkFace() {
        int modifiers = SoupTickets.class.getModifiers();
        check(Modifier.isPublic(modifiers) && Modifier.isFinal(modifiers), "the class is public and final");
        Set<String> seen = new TreeSet<>();
        for (Method method : SoupTickets.class.getDeclaredMethods()) {
            if (!Modifier.isPrivate(method.getModifiers())) {
                check(Modifier.isPublic(method.getModifiers()), method + " is public or private");
                check(!Modifier.isStatic(method.getModifiers()), method + " is no static one");
                seen.add(told(method));
            }
        }
        Set<String> due = new TreeSet<>(List.of(FACE));
        check(seen.equals(due), "the methods are " + due + ", seen " + seen);
        Constructor<?>[] makers = SoupTickets.class.getDeclaredConstructors();
        check(makers.length == 1 && makers[0].getParameterCount() == 0
            && Modifier.isPublic(makers[0].getModifiers()), "one public constructor without parameters");
        for (Field field : SoupTickets.class.getDeclaredFields()) {
            boolean isNone = field.getName().equals("NONE");
            check(isNone == Modifier.isPublic(field.getModifiers()), field + " is public only if it is NONE");
            check(isNone || Modifier.isPrivate(field.getModifiers()), field + " is private");
        }
    }

    private static void checkClass(Class<?> one) {
        Set<String> names = new TreeSet<>();
        for (String method : FACE) {
            names.add(method.substring(method.indexOf(' ') + 1, method.indexOf('(')));
        }
        for (Method method : one.getDeclaredMethods()) {
            check(method.getParameterCount() <= 7, method + " has at most seven parameters");
            boolean ofFace = one == SoupTickets.class && Modifier.isPublic(method.getModifiers());
            check(ofFace || !names.contains(method.getName()), method + " bears no name of the face");
            check(!method.isSynthetic(), method + " is written out");
        }
        int fields = 0;
        for (Field field : one.getDeclaredFields()) {
            if (Modifier.isStatic(field.getModifiers())) {
                check(Modifier.isFinal(field.getModifiers()), field + " is final");
            } else {
                fields++;
            }
        }
        check(fields <= 20, one + " has at most twenty fields");
    }

    private static void checkSource() throws IOException {
        String source = Files.readString(Path.of("src/main/java/SoupTickets.java"));
        String code = source.replaceAll("(?s)/\\*.*?\\*/", " ").replaceAll("//[^\n]*", " ");
        for (String pattern : RULED_OUT) {
            check(code.split(pattern, -1).length == 1,
                "the program is without " + pattern);
        }
        check(source.chars().allMatch(c -> c < 128), "the program is written in plain characters");
    }
}
