import java.io.IOException;
import java.lang.reflect.Constructor;
import java.lang.reflect.Field;
import java.lang.reflect.Method;
import java.lang.reflect.Modifier;
import java.nio.file.Files;
import java.nio.file.Path;
import java.util.Arrays;
import java.util.Set;
import java.util.TreeSet;

/** The public face, and those rules of LANGUAGE.md that can be seen from the text. */
final class FaceTest {
    private static final String[] METHODS = {
        "int board(int,int,int,int)", "int of(int,int)", "int change(int,int,int)", "int hours(int,int,int)",
        "int set(int,int)", "int say(int)", "int wipe()", "int fault()", "int read()", "int rounds(int)",
        "int round(int,int)", "long product(int,int)", "int best(int)", "int through(int)", "int blamed()",
        "int cut()", "int move(int)", "int edge()", "long gets(int,int,int)", "long span(int,int,int,int)",
        "int joined(int)", "int parts()", "int worth(int,int)", "int off(int)", "int walk(int,int,int,int,int)",
        "int walkers(int)", "int told(int)"};
    private static final String[] FIELDS = {
        "int NONE", "int UNKNOWN", "int OUTSIDE", "int STATE", "int FULL", "int NO", "long LOST"};
    private static final String[] NOT_IN_THE_TEXT = {
        "import ", "package ", "catch", "finally", "synchronized", "assert", "->", "::", "Exact(", "double", "float",
        "throw", "System.out", "null", "equals", "hashCode", "toString"};

    public static void main(String[] args) throws IOException {
        Checks checks = new Checks("FaceTest");
        face(checks);
        constants(checks);
        insides(checks);
        text(checks);
        checks.end();
    }

    private static void face(Checks checks) {
        Class<?> type = FairBoards.class;
        checks.holds("public", Modifier.isPublic(type.getModifiers()));
        checks.holds("final", Modifier.isFinal(type.getModifiers()));
        checks.holds("no class above", type.getSuperclass() == Object.class && type.getInterfaces().length == 0);
        Set<String> methods = new TreeSet<>();
        for (Method method : type.getDeclaredMethods()) {
            if (!Modifier.isPrivate(method.getModifiers())) {
                methods.add(written(method));
            }
        }
        checks.holds("methods " + methods, methods.equals(new TreeSet<>(Arrays.asList(METHODS))));
        Set<String> fields = new TreeSet<>();
        for (Field field : type.getDeclaredFields()) {
            if (!Modifier.isPrivate(field.getModifiers())) {
                fields.add(field.getType().getSimpleName() + " " + field.getName());
            }
        }
        checks.holds("fields " + fields, fields.equals(new TreeSet<>(Arrays.asList(FIELDS))));
        Constructor<?>[] makers = type.getDeclaredConstructors();
        checks.holds("one constructor", makers.length == 1 && Modifier.isPublic(makers[0].getModifiers())
            && makers[0].getParameterCount() == 0);
    }

    private static String written(Method method) {
        StringBuilder line = new StringBuilder();
        if (!Modifier.isPublic(method.getModifiers()) || Modifier.isStatic(method.getModifiers())) {
            line.append("not as told: ");
        }
        line.append(method.getReturnType().getSimpleName()).append(' ').append(method.getName()).append('(');
        for (int i = 0; i < method.getParameterCount(); i++) {
            line.append(i == 0 ? "" : ",").append(method.getParameterTypes()[i].getSimpleName());
        }
        return line.append(')').toString();
    }

    private static void constants(Checks checks) {
        checks.due("NONE", FairBoards.NONE, -6);
        checks.due("UNKNOWN", FairBoards.UNKNOWN, -1);
        checks.due("OUTSIDE", FairBoards.OUTSIDE, -2);
        checks.due("STATE", FairBoards.STATE, -3);
        checks.due("FULL", FairBoards.FULL, -4);
        checks.due("NO", FairBoards.NO, -5);
        checks.due("LOST", FairBoards.LOST, -1000000000000000000L);
    }

    private static void insides(Checks checks) {
        Set<String> open = new TreeSet<>();
        for (String method : METHODS) {
            open.add(method.substring(method.indexOf(' ') + 1, method.indexOf('(')));
        }
        Class<?>[] insides = FairBoards.class.getDeclaredClasses();
        checks.holds("at most twelve classes", insides.length < 12);
        for (Class<?> inside : insides) {
            checks.holds(inside + " static", Modifier.isStatic(inside.getModifiers()));
            checks.holds(inside + " not public", !Modifier.isPublic(inside.getModifiers()));
            checks.holds(inside + " fields", inside.getDeclaredFields().length <= 20);
            looks(checks, inside, open);
        }
        looks(checks, FairBoards.class, open);
    }

    private static void looks(Checks checks, Class<?> type, Set<String> open) {
        for (Method method : type.getDeclaredMethods()) {
            boolean named = open.contains(method.getName());
            checks.holds(method + " name", named == (type == FairBoards.class && Modifier.isPublic(method.getModifiers())));
            checks.holds(method + " parameters", method.getParameterCount() <= 7);
        }
        for (Field field : type.getDeclaredFields()) {
            boolean fixed = !Modifier.isStatic(field.getModifiers()) || Modifier.isFinal(field.getModifiers());
            checks.holds(field + " final, if static", fixed);
        }
    }

    private static void text(Checks checks) throws IOException {
        String text = Files.readString(Path.of("src/main/java/FairBoards.java"));
        for (String word : NOT_IN_THE_TEXT) {
            checks.holds("without " + word, !text.contains(word));
        }
        checks.holds("plain signs", text.chars().allMatch(sign -> sign == '\n' || sign >= 32 && sign < 127));
    }
}
