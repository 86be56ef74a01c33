import java.io.IOException;
import java.lang.reflect.Field;
import java.lang.reflect.Method;
import java.lang.reflect.Modifier;
import java.nio.file.Files;
import java.nio.file.Path;
import java.util.ArrayList;
import java.util.Arrays;
import java.util.List;
import java.util.TreeSet;
import java.util.regex.Matcher;
import java.util.regex.Pattern;

/**
 * What the document writes in code, read from the document itself: its face, its constants, the
 * signature of each promise, and the four examples. Its sentences are left to BoundaryTest.
 */
public final class DocumentTest {
    private static final Due DUE = new Due("DocumentTest");
    private static final int PROMISES = 29;
    private static final int EXAMPLES = 4;
    private static final String NEW_OBJECT = "TrafficMatrix()";

    private final List<String> lines;

    private DocumentTest(List<String> lines) {
        this.lines = lines;
    }

    public static void main(String[] args) throws IOException, ReflectiveOperationException {
        String path = System.getProperty("project.document", "../shared/DOC.md");
        DocumentTest test = new DocumentTest(Files.readAllLines(Path.of(path)));
        test.face();
        test.listOfConstants();
        test.signaturesOfPromises();
        test.examples();
        DUE.end();
    }

    // ---- what the class has

    private static List<String> methodsOfClass() {
        List<String> methods = new ArrayList<>(List.of(NEW_OBJECT));
        for (Method method : TrafficMatrix.class.getDeclaredMethods()) {
            if (Modifier.isPublic(method.getModifiers())) {
                List<String> kinds = Arrays.stream(method.getParameterTypes()).map(Class::getName).toList();
                methods.add(method.getReturnType().getName() + " " + method.getName()
                        + "(" + String.join(", ", kinds) + ")");
            }
        }
        return methods;
    }

    private static List<String> constantsOfClass() throws IllegalAccessException {
        List<String> constants = new ArrayList<>();
        for (Field field : TrafficMatrix.class.getFields()) {
            constants.add(field.getName() + " = " + field.getLong(null));
        }
        return constants;
    }

    // ---- what the document has

    /** A signature without the names of its parameters. */
    private static String withoutNames(String signature) {
        return signature.replaceAll("\\b(int|long) \\w+(?=[,)])", "$1");
    }

    private static String constant(String name, String value) {
        return name + " = " + TextCall.valueOf(value);
    }

    private void face() throws IllegalAccessException {
        Pattern constant = Pattern.compile(" +public static final (?:int|long) (\\w+) = ([^;]+);");
        Pattern method = Pattern.compile(" +public ((?:int |long )?\\w+\\([^)]*\\));");
        List<String> constants = new ArrayList<>();
        List<String> methods = new ArrayList<>();
        for (String line : lines) {
            Matcher ofConstant = constant.matcher(line);
            Matcher ofMethod = method.matcher(line);
            if (ofConstant.matches()) {
                constants.add(constant(ofConstant.group(1), ofConstant.group(2)));
            } else if (ofMethod.matches()) {
                methods.add(withoutNames(ofMethod.group(1)));
            }
        }
        same("the constants of the face", constantsOfClass(), constants);
        same("the methods of the face", methodsOfClass(), methods);
    }

    private void listOfConstants() throws IllegalAccessException {
        Pattern item = Pattern.compile("- `(\\w+) = ([^`]+)`: .*");
        List<String> constants = new ArrayList<>();
        for (String line : lines) {
            Matcher matcher = item.matcher(line);
            if (matcher.matches()) {
                constants.add(constant(matcher.group(1), matcher.group(2)));
            }
        }
        same("the list of constants", constantsOfClass(), constants);
    }

    private void signaturesOfPromises() {
        List<String> methods = new ArrayList<>();
        int promises = 0;
        for (String line : lines) {
            if (line.startsWith("## Promise ")) {
                promises++;
            } else if (line.matches("`[^`]*\\)`")) {
                methods.add(withoutNames(line.substring(1, line.length() - 1)));
            }
        }
        DUE.is("the number of promises", promises, PROMISES);
        same("the signatures of the promises", methodsOfClass(), methods);
    }

    private static void same(String what, List<String> ofClass, List<String> ofDocument) {
        boolean equal = ofClass.size() == ofDocument.size()
                && new TreeSet<>(ofClass).equals(new TreeSet<>(ofDocument));
        DUE.is(what + ": the class has " + ofClass + ", the document " + ofDocument, equal ? 1 : 0, 1);
    }

    // ---- examples

    private void examples() throws ReflectiveOperationException {
        int examples = 0;
        for (String line : lines) {
            if (line.matches("\\d\\. [^:]*: \\w+\\(.*")) {
                examples++;
                example(examples, line.substring(line.indexOf(": ") + 2));
            }
        }
        DUE.is("the number of examples", examples, EXAMPLES);
    }

    private static void example(int number, String calls) throws ReflectiveOperationException {
        TrafficMatrix x = new TrafficMatrix();
        for (String text : calls.replaceAll("\\.$", "").split("; ")) {
            String[] parts = text.split(" = ");
            TextCall call = parts.length == 2 ? TextCall.of(parts[0], parts[1]) : null;
            DUE.is("example " + number + ": '" + text + "' is a call", call != null ? 1 : 0, 1);
            if (call != null) {
                DUE.is("example " + number + ": " + call.told(), call.answerOf(x), call.want());
            }
        }
    }
}
