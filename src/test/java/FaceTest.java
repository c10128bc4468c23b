import java.io.IOException;
import java.lang.reflect.Constructor;
import java.lang.reflect.Field;
import java.lang.reflect.Member;
import java.lang.reflect.Method;
import java.lang.reflect.Modifier;
import java.nio.file.Files;
import java.nio.file.Path;
import java.util.Arrays;
import java.util.HashSet;
import java.util.Set;
import java.util.TreeSet;
import java.util.stream.Collectors;

/** The public face of the document, and no more than it (LANGUAGE.md, rules 1, 2, 5 and 11). */
final class FaceTest {
    private static final String INDEX = "java.lang.IndexOutOfBoundsException";
    private static final String ARGUMENT = "java.lang.IllegalArgumentException";
    private static final String STATE = "java.lang.IllegalStateException";

    private static final String[] METHODS = {
        "int bounds(int,int,int) " + INDEX + " " + ARGUMENT + " " + STATE,
        "int set(int,int) " + INDEX + " " + ARGUMENT,
        "int promise(int,int,int) " + INDEX + " " + ARGUMENT + " " + STATE,
        "int transfer(int,int,int,int) " + INDEX + " " + ARGUMENT + " " + STATE,
        "int settle(int) " + INDEX,
        "int settlePart(int,int) " + INDEX + " " + ARGUMENT,
        "int cancel(int) " + INDEX,
        "int renew(int) " + INDEX,
        "int finish(int,boolean) " + INDEX,
        "int pass(int) " + ARGUMENT + " " + STATE,
        "int append(int) " + ARGUMENT + " " + STATE,
        "int clearBuffer()",
        "int firstError()",
        "int promiseAll() " + ARGUMENT,
        "int undo() " + STATE,
        "int counter(int,int) " + INDEX + " " + ARGUMENT,
        "int promiseOf(int,int) " + INDEX + " " + ARGUMENT,
        "int owner(int,int) " + INDEX + " " + ARGUMENT,
        "int count(int) " + ARGUMENT,
        "int setting(int) " + INDEX,
        "int whyNot(int,int,int) " + INDEX + " " + ARGUMENT,
        "int canBe(int,int) " + INDEX,
        "int mostFor(int,int,boolean) " + INDEX,
        "int ifPassed(int,int) " + ARGUMENT,
        "double heldShare()",
        "long digest()",
    };

    public static void main(String[] args) throws IOException {
        Runs runs = new Runs();
        lines(runs);
        Class<?> face = PromisedCounters.class;
        runs.due("the modifiers of the class", Modifier.toString(face.getModifiers()), "public final");
        runs.due("its package", face.getPackageName(), "");
        runs.due("above it", face.getSuperclass(), Object.class);
        runs.due("its interfaces", face.getInterfaces().length, 0);
        constructors(runs, face);
        constants(runs, face);
        methods(runs, face);
        classesInside(runs, face);
        runs.end();
    }

    /** The program has each line of the document's face, the names of the parameters with it, in its order. */
    private static void lines(Runs runs) throws IOException {
        String program = Files.readString(Path.of("src/main/java/PromisedCounters.java")).replaceAll("\\s+", " ");
        String document = Files.readString(Path.of("../shared/DOC.md"));
        int start = document.indexOf("```java\n") + "```java\n".length();
        String face = document.substring(start, document.indexOf("```", start));
        int behind = 0;
        int found = 0;
        for (String line : face.split("\n")) {
            String text = line.strip();
            if (text.startsWith("public")) {
                String told = text.contains("(") ? text.replace(";", " {") : text;
                int at = program.indexOf(told, behind);
                runs.due("whether the program has, behind the one before: " + told, at >= 0, true);
                behind = Math.max(behind, at);
                found++;
            }
        }
        runs.due("lines of the face: the class, the constant, the constructor and the methods", found,
                METHODS.length + 3);
    }

    private static void constructors(Runs runs, Class<?> face) {
        Constructor<?>[] constructors = face.getDeclaredConstructors();
        runs.due("constructors", constructors.length, 1);
        runs.due("the constructor", constructors[0].toString(), "public PromisedCounters()");
    }

    private static void constants(Runs runs, Class<?> face) {
        runs.due("NONE", PromisedCounters.NONE, -1);
        for (Field field : face.getDeclaredFields()) {
            boolean isNone = field.getName().equals("NONE");
            runs.due("whether the field " + field.getName() + " is seen", isSeen(field), isNone);
        }
        runs.due("fields beside constants", fieldsOf(face) <= 20, true);
    }

    private static void methods(Runs runs, Class<?> face) {
        Set<String> got = new TreeSet<>();
        for (Method method : face.getDeclaredMethods()) {
            if (isSeen(method)) {
                runs.due(method.getName() + " is public and no more", method.getModifiers(), Modifier.PUBLIC);
                got.add(signature(method));
            }
        }
        runs.due("the methods", got, new TreeSet<>(Arrays.asList(METHODS)));
    }

    private static void classesInside(Runs runs, Class<?> face) {
        Set<String> faceNames = new HashSet<>();
        for (String method : METHODS) {
            faceNames.add(method.substring(method.indexOf(' ') + 1, method.indexOf('(')));
        }
        runs.due("some twelve classes at most", face.getDeclaredClasses().length <= 12, true);
        runs.due("a private method of a public one's name", hidden(face, faceNames), "");
        for (Class<?> inside : face.getDeclaredClasses()) {
            String name = inside.getSimpleName();
            int modifiers = inside.getModifiers();
            runs.due(name + " is static", Modifier.isStatic(modifiers), true);
            runs.due(name + " is seen", Modifier.isPublic(modifiers) || Modifier.isProtected(modifiers), false);
            runs.due(name + " has a method of a public one's name", hidden(inside, faceNames), "");
            runs.due(name + " has some twenty fields at most", fieldsOf(inside) <= 20, true);
        }
    }

    private static String hidden(Class<?> type, Set<String> faceNames) {
        return Arrays.stream(type.getDeclaredMethods())
                .filter(m -> !Modifier.isPublic(m.getModifiers()) && faceNames.contains(m.getName()))
                .map(Method::getName).collect(Collectors.joining(" "));
    }

    /** How many fields a class has beside its constants; every static one must be final. */
    private static long fieldsOf(Class<?> type) {
        long many = 0;
        for (Field field : type.getDeclaredFields()) {
            boolean isStatic = Modifier.isStatic(field.getModifiers());
            if (isStatic && !Modifier.isFinal(field.getModifiers())) {
                return Long.MAX_VALUE;
            }
            many += isStatic ? 0 : 1;
        }
        return many;
    }

    private static boolean isSeen(Member member) {
        return !Modifier.isPrivate(member.getModifiers());
    }

    private static String signature(Method method) {
        String parameters = Arrays.stream(method.getParameterTypes()).map(Class::getName)
                .collect(Collectors.joining(","));
        String thrown = Arrays.stream(method.getExceptionTypes()).map(c -> " " + c.getName())
                .collect(Collectors.joining());
        return method.getReturnType() + " " + method.getName() + "(" + parameters + ")" + thrown;
    }
}
