import java.io.IOException;
import java.lang.reflect.Constructor;
import java.lang.reflect.Field;
import java.lang.reflect.Method;
import java.lang.reflect.Modifier;
import java.nio.file.Files;
import java.nio.file.Path;
import java.util.ArrayList;
import java.util.List;
import java.util.Set;
import java.util.TreeSet;

/** The class shows just the document's face, and keeps no state beside its objects. */
public final class FaceTest {
    private static final String[] FACE = {
        "int addFork(boolean) throws java.lang.IllegalStateException",
        "int addTrail(int,int,int,int) throws java.lang.IndexOutOfBoundsException,"
            + "java.lang.IllegalArgumentException,java.lang.IllegalStateException",
        "boolean washOut(int) throws java.lang.IndexOutOfBoundsException",
        "boolean isGone(int,boolean) throws java.lang.IndexOutOfBoundsException",
        "int minutes(int,int,boolean) throws java.lang.IndexOutOfBoundsException,java.util.NoSuchElementException",
        "int firstTrail(int,int) throws java.lang.IndexOutOfBoundsException,java.util.NoSuchElementException",
        "int addWood(int) throws java.lang.IllegalArgumentException",
        "int cut(int,int) throws java.lang.IndexOutOfBoundsException,java.lang.IllegalArgumentException,"
            + "java.util.NoSuchElementException,java.lang.UnsupportedOperationException,"
            + "java.lang.IllegalStateException",
        "int trailOf(int) throws java.lang.IndexOutOfBoundsException",
        "int told(int) throws java.lang.IndexOutOfBoundsException",
        "boolean isCovered(int) throws java.lang.IndexOutOfBoundsException",
        "int danger(int,boolean) throws java.lang.IndexOutOfBoundsException",
        "int unsafe(boolean)",
        "boolean report(int,int,boolean) throws java.lang.IllegalArgumentException,java.lang.IndexOutOfBoundsException",
        "int trust(int) throws java.lang.IllegalArgumentException",
        "int reports(int) throws java.lang.IndexOutOfBoundsException",
        "int addTask(char,int,int) throws java.lang.IllegalArgumentException,java.lang.IndexOutOfBoundsException,"
            + "java.lang.IllegalStateException",
        "int plan()",
        "char kindOf(int) throws java.lang.IndexOutOfBoundsException",
        "int numberOf(int) throws java.lang.IndexOutOfBoundsException",
        "int doneBy(int) throws java.lang.IndexOutOfBoundsException,java.util.NoSuchElementException",
        "int openTasks()",
        "int addRanger(int,int) throws java.lang.IndexOutOfBoundsException,java.lang.IllegalArgumentException,"
            + "java.lang.IllegalStateException",
        "int forkOf(int) throws java.lang.IndexOutOfBoundsException",
        "int worked(int) throws java.lang.IndexOutOfBoundsException",
        "int day() throws java.lang.IllegalStateException",
        "int print() throws java.lang.IllegalStateException",
        "boolean shows(int,int) throws java.lang.IndexOutOfBoundsException",
        "int age(int) throws java.lang.IndexOutOfBoundsException",
        "float knownShare() throws java.lang.ArithmeticException",
        "double meanDanger() throws java.lang.ArithmeticException",
        "boolean isSound()",
    };

    private static final String[][] HEADS = {
        {"trails", "addFork", "addTrail", "washOut", "isGone", "minutes", "firstTrail"},
        {"boards", "addWood", "cut", "trailOf", "told", "isCovered", "danger", "unsafe"},
        {"reports", "report", "trust", "reports"},
        {"tasks and rangers", "addTask", "plan", "kindOf", "numberOf", "doneBy", "openTasks", "addRanger", "forkOf",
            "worked", "day"},
        {"maps and figures", "print", "shows", "age", "knownShare", "meanDanger", "isSound"},
    };

    public static void main(String[] args) throws IOException {
        Checks checks = new Checks();
        Class<?> type = WayMarker.class;
        checks.yes("public", Modifier.isPublic(type.getModifiers()));
        checks.yes("final", Modifier.isFinal(type.getModifiers()));
        checks.yes("no package", type.getPackageName().isEmpty());

        Set<String> open = new TreeSet<>();
        Set<String> hidden = new TreeSet<>();
        Set<String> openNames = new TreeSet<>();
        for (Method method : type.getDeclaredMethods()) {
            if (Modifier.isPrivate(method.getModifiers())) {
                hidden.add(method.getName());
            } else {
                open.add(describe(method));
                openNames.add(method.getName());
                checks.yes(method.getName() + " is public", Modifier.isPublic(method.getModifiers()));
            }
        }
        checks.yes("the methods are " + open, open.equals(new TreeSet<>(List.of(FACE))));
        for (String name : hidden) {
            checks.no(name + " is a private name of a public one", openNames.contains(name));
        }

        checks.same("constructors", type.getDeclaredConstructors().length, 1);
        for (Constructor<?> constructor : type.getDeclaredConstructors()) {
            checks.yes("public constructor", Modifier.isPublic(constructor.getModifiers()));
            checks.same("its parameters", constructor.getParameterCount(), 0);
        }
        headsStandAhead(checks, Files.readString(Path.of("src/main/java/WayMarker.java")));
        fieldsAreKept(checks, type, true);
        for (Class<?> inside : type.getDeclaredClasses()) {
            checks.yes(inside + " is static", Modifier.isStatic(inside.getModifiers()));
            fieldsAreKept(checks, inside, false);
        }
        checks.end();
    }

    /** The calls stand in the document's order, behind the heads that the document names. */
    private static void headsStandAhead(Checks checks, String source) {
        int at = 0;
        for (String[] head : HEADS) {
            int next = source.indexOf("    // ---- " + head[0] + "\n", at);
            checks.yes("the head " + head[0], next > at);
            at = next;
            for (int call = 1; call < head.length; call++) {
                next = source.indexOf(" " + head[call] + "(", at);
                checks.yes(head[call] + " stands behind " + head[0], next > at);
                at = next;
            }
        }
    }

    private static String describe(Method method) {
        List<String> thrown = new ArrayList<>();
        for (Class<?> exception : method.getExceptionTypes()) {
            thrown.add(exception.getName());
        }
        List<String> taken = new ArrayList<>();
        for (Class<?> parameter : method.getParameterTypes()) {
            taken.add(parameter.getName());
        }
        return method.getReturnType().getName() + " " + method.getName() + "(" + String.join(",", taken) + ")"
            + (thrown.isEmpty() ? "" : " throws " + String.join(",", thrown));
    }

    private static void fieldsAreKept(Checks checks, Class<?> type, boolean arePrivate) {
        int fields = 0;
        for (Field field : type.getDeclaredFields()) {
            if (arePrivate) {
                checks.yes(field + " is private", Modifier.isPrivate(field.getModifiers()));
            }
            if (Modifier.isStatic(field.getModifiers())) {
                checks.yes(field + " is final", Modifier.isFinal(field.getModifiers()));
            } else {
                fields++;
            }
        }
        checks.yes(type + " has at most 20 fields", fields <= 20);
    }
}
