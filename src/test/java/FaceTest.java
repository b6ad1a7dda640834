import java.io.IOException;
import java.lang.reflect.Constructor;
import java.lang.reflect.Field;
import java.lang.reflect.Method;
import java.lang.reflect.Modifier;
import java.nio.file.Files;
import java.nio.file.Path;
import java.util.ArrayList;
import java.util.List;
import java.util.Set;
import java.util.TreeSet;
import java.util.regex.Matcher;
import java.util.regex.Pattern;

/** The public face of the document, and those rules of LANGUAGE.md that can be seen in classes and in words. */
public final class FaceTest {
    private static final String[] FACE = {
        "int subscriber()", "int give(int, int)", "int house(int, int, int)", "boolean look(int, int)",
        "boolean hand(int, int)", "boolean lose(int)", "boolean propose(int, int)", "boolean vote(int, boolean)",
        "int close()", "int due(int)", "int store(int, int)", "boolean frost(int)", "int forecast(int)",
        "int cook(int, int)", "int show(int)", "int go(int)", "int visitor(int, int, int)", "int visits(int)",
        "int far(int)", "int entry(int, int)", "int same(int, int)", "int joined(int)", "int card(int, int)",
        "int told(int, int)", "int gave(int, int)", "int ward(int, int)", "int count(int)",
    };
    private static final String[] RULED_OUT = {
        "\\bthrow\\b", "\\btry\\b", "\\bcatch\\b", "\\bsynchronized\\b", "\\bassert\\b", "\\bimport\\b",
        "\\bpackage\\b", "->", "::", "\\brecord\\b", "\\bThread\\b", "\\bException\\b",
        "while \\(true\\)", "for \\(;;\\)", "static \\{", "\\w\\[\\]\\[\\]",
    };
    private static final Set<String> LIBRARY = Set.of("Math.max", "Math.min", "Math.abs", "System.arraycopy");
    private static final Pattern NAME = Pattern.compile("\\b([A-Z]\\w*)\\b(?:\\.(\\w+))?");
    private static final Pattern CONSTANT = Pattern.compile("[A-Z][A-Z_]*");
    private static final Pattern METHOD = Pattern.compile("( +)(?:\\w+ )*[\\w\\[\\]]+\\(.*\\) \\{");
    private static final int MOST_LINES = 60;
    private static int wrong = 0;

    private static void check(boolean holds, String what) {
        if (!holds) {
            wrong++;
            System.out.println("not so: " + what);
        }
    }

    public static void main(String[] args) throws IOException {
        checkFace();
        Class<?>[] inside = SoupTickets.class.getDeclaredClasses();
        check(inside.length + 1 <= 12, "at most twelve classes");
        checkClass(SoupTickets.class);
        for (Class<?> one : inside) {
            int modifiers = one.getModifiers();
            check(Modifier.isStatic(modifiers), one + " is static");
            check(!Modifier.isPublic(modifiers) && !Modifier.isProtected(modifiers), one + " isn't public");
            checkClass(one);
        }
        checkSource();
        System.out.println(wrong == 0 ? "the face is as told" : wrong + " things are not as told");
        if (wrong != 0) {
            System.exit(1);
        }
    }

    private static String told(Method method) {
        List<String> types = new ArrayList<>();
        for (Class<?> type : method.getParameterTypes()) {
            types.add(type.getSimpleName());
        }
        return method.getReturnType().getSimpleName() + " " + method.getName() + "(" + String.join(", ", types) + ")";
    }

    private static void checkFace() {
        int modifiers = SoupTickets.class.getModifiers();
        check(Modifier.isPublic(modifiers) && Modifier.isFinal(modifiers), "the class is public and final");
        Set<String> seen = new TreeSet<>();
        for (Method method : SoupTickets.class.getDeclaredMethods()) {
            if (!Modifier.isPrivate(method.getModifiers())) {
                check(Modifier.isPublic(method.getModifiers()), method + " is public or private");
                check(!Modifier.isStatic(method.getModifiers()), method + " is no static one");
                seen.add(told(method));
            }
        }
        Set<String> due = new TreeSet<>(List.of(FACE));
        check(seen.equals(due), "the methods are " + due + ", seen " + seen);
        Constructor<?>[] makers = SoupTickets.class.getDeclaredConstructors();
        check(makers.length == 1 && makers[0].getParameterCount() == 0
            && Modifier.isPublic(makers[0].getModifiers()), "one public constructor without parameters");
        for (Field field : SoupTickets.class.getDeclaredFields()) {
            boolean isNone = field.getName().equals("NONE");
            check(isNone == Modifier.isPublic(field.getModifiers()), field + " is public only if it is NONE");
            check(isNone || Modifier.isPrivate(field.getModifiers()), field + " is private");
        }
    }

    private static void checkClass(Class<?> one) {
        Set<String> names = new TreeSet<>();
        for (String method : FACE) {
            names.add(method.substring(method.indexOf(' ') + 1, method.indexOf('(')));
        }
        for (Method method : one.getDeclaredMethods()) {
            check(method.getParameterCount() <= 7, method + " has at most seven parameters");
            boolean ofFace = one == SoupTickets.class && Modifier.isPublic(method.getModifiers());
            check(ofFace || !names.contains(method.getName()), method + " bears no name of the face");
            check(!method.isSynthetic(), method + " is written out");
        }
        int fields = 0;
        for (Field field : one.getDeclaredFields()) {
            if (Modifier.isStatic(field.getModifiers())) {
                check(Modifier.isFinal(field.getModifiers()), field + " is final");
            } else {
                fields++;
            }
        }
        check(fields <= 20, one + " has at most twenty fields");
    }

    private static void checkSource() throws IOException {
        String source = Files.readString(Path.of("src/main/java/SoupTickets.java"));
        String code = source.replaceAll("(?s)/\\*.*?\\*/", " ").replaceAll("//[^\n]*", " ");
        for (String pattern : RULED_OUT) {
            check(code.split(pattern, -1).length == 1,
                "the program is without " + pattern);
        }
        check(source.chars().allMatch(c -> c < 128), "the program is written in plain characters");
        checkNames(code);
        checkLengths(source.split("\n"));
    }

    /** Names of classes are the program's own or the library's that is used: what else comes is to be looked at. */
    private static void checkNames(String code) {
        Set<String> own = new TreeSet<>(List.of("SoupTickets"));
        for (Class<?> one : SoupTickets.class.getDeclaredClasses()) {
            own.add(one.getSimpleName());
        }
        Matcher name = NAME.matcher(code);
        while (name.find()) {
            String first = name.group(1);
            boolean known = own.contains(first) || CONSTANT.matcher(first).matches();
            check(known || LIBRARY.contains(first + "." + name.group(2)), name.group() + " is one that may be used");
        }
    }

    private static void checkLengths(String[] lines) {
        int seen = 0;
        for (int i = 0; i < lines.length; i++) {
            Matcher head = METHOD.matcher(lines[i]);
            if (head.matches() && !lines[i].matches(" +(if|for|while|switch|\\} else if) .*")) {
                String end = head.group(1) + "}";
                int length = 1;
                while (i + length < lines.length && !lines[i + length].equals(end)) {
                    length++;
                }
                seen++;
                check(length < MOST_LINES, lines[i].trim() + " has less than sixty lines");
            }
        }
        check(seen > FACE.length, "the methods of the program were found");
    }
}
