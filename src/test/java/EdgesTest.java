import java.io.IOException;
import java.lang.reflect.InvocationTargetException;
import java.lang.reflect.Method;
import java.nio.file.Files;
import java.nio.file.Path;
import java.util.ArrayList;
import java.util.Arrays;
import java.util.Comparator;
import java.util.List;

/** Each sentence of the document that names an edge has a test here, and each test names its sentences. */
public final class EdgesTest {
    private static final Path DOCUMENT = Path.of("../shared/DOC.md");
    private static final Class<?>[] EDGES = {
        TrailEdges.class, BoardEdges.class, ReportEdges.class, TaskEdges.class, RangerEdges.class, MapEdges.class,
        RefusalEdges.class,
    };

    private final Checks checks = new Checks();
    private final List<String> lines;
    private final List<String> named = new ArrayList<>();

    private EdgesTest(List<String> lines) {
        this.lines = lines;
    }

    public static void main(String[] args) throws IOException, IllegalAccessException, InvocationTargetException {
        EdgesTest test = new EdgesTest(Files.readAllLines(DOCUMENT));
        for (Class<?> edges : EDGES) {
            test.runAll(edges);
        }
        test.lookForSentencesWithoutTest();
        test.checks.end();
    }

    private void runAll(Class<?> edges) throws IllegalAccessException, InvocationTargetException {
        Method[] methods = edges.getDeclaredMethods();
        Arrays.sort(methods, Comparator.comparing(Method::getName));
        for (Method method : methods) {
            Edge edge = method.getAnnotation(Edge.class);
            if (edge != null) {
                for (String sentence : edge.value()) {
                    checks.yes("the document says: " + sentence, saysUnder(sentence));
                    named.add(sentence);
                    System.out.println(edges.getSimpleName() + "." + method.getName() + ": " + sentence);
                }
                method.invoke(null, checks);
            }
        }
    }

    private boolean saysUnder(String sentence) {
        int end = sentence.indexOf(": ");
        return end > 0 && textUnder(sentence.substring(0, end)).contains(sentence.substring(end + 2));
    }

    /** The text under a head, "Terms" or "Promise 3", as one line. */
    private String textUnder(String head) {
        StringBuilder text = new StringBuilder();
        boolean isUnder = false;
        for (String line : lines) {
            if (line.startsWith("## ")) {
                isUnder = line.equals("## " + head) || line.startsWith("## " + head + ":");
            } else if (isUnder && !line.isEmpty()) {
                text.append(line).append(' ');
            }
        }
        return text.toString();
    }

    private void lookForSentencesWithoutTest() {
        for (String sentence : textUnder("Terms").split("(?<=[.:;]) ")) {
            if (!sentence.matches("\\w+\\.|Ahead of the calls .*|---- .*")) {
                checks.yes("a test of: Terms: " + sentence, isNamed("Terms", sentence));
            }
        }
        for (int promise = 1; promise <= 33; promise++) {
            String head = "Promise " + promise;
            for (String line : linesUnder(head)) {
                if (line.startsWith("Throws") || line.matches("- .*(\\d|'m').*")) {
                    checks.yes("a test of: " + head + ": " + line, isNamed(head, line));
                }
            }
        }
    }

    private List<String> linesUnder(String head) {
        List<String> found = new ArrayList<>();
        boolean isUnder = false;
        for (String line : lines) {
            if (line.startsWith("## ")) {
                isUnder = line.startsWith("## " + head + ":");
            } else if (isUnder) {
                found.add(line);
            }
        }
        return found;
    }

    /** A test may name a part of the sentence alone, or several sentences at once. */
    private boolean isNamed(String head, String sentence) {
        for (String name : named) {
            if (name.startsWith(head + ": ")) {
                String said = name.substring(head.length() + 2);
                if (said.contains(sentence) || sentence.contains(said)) {
                    return true;
                }
            }
        }
        return false;
    }
}
