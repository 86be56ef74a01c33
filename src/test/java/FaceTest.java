import java.io.IOException;
import java.lang.reflect.Constructor;
import java.lang.reflect.Field;
import java.lang.reflect.Method;
import java.lang.reflect.Modifier;
import java.nio.file.Files;
import java.nio.file.Path;
import java.util.ArrayList;
import java.util.Arrays;
import java.util.List;
import java.util.TreeSet;
import java.util.regex.Matcher;
import java.util.regex.Pattern;

/** The public face of the document, and what of LANGUAGE.md can be seen without a compiler. */
public final class FaceTest {
    private static final Due DUE = new Due("FaceTest");

    private static final String[] METHODS = {
        "int reset(int)", "int addLink(int,int,int)", "int setMetric(int,int)",
        "int routeLength(int,int)", "int routeLink(int,int,int)", "int setDemand(int,int,int)",
        "int carriedLoad(int)", "int measure()", "int setMeasuredLoad(int,int)",
        "int measuredLoad(int)", "int outTotal(int)", "int inTotal(int)", "int measurePair(int,int)",
        "int forgetPair(int,int)", "int rank()", "int isConsistent()", "int isIdentifiable(int,int)",
        "int identifiableCount()", "long identifiedNumerator(int,int)",
        "long identifiedDenominator(int,int)", "int bestPair()", "int pairsOnLink(int)",
        "int applyGravity()", "int fitTotals(int)", "int fitLinks(int)", "long estimate(int,int)",
        "long residual(int)", "long totalError()",
    };

    private static final String[] CONSTANTS = {
        "NO_SUCH_NODE", "SAME_NODE", "NO_SUCH_LINK", "BAD_VALUE", "FULL", "NO_ROUTE", "NONE", "NO_VALUE",
    };

    public static void main(String[] args) throws IOException {
        constants();
        members();
        nestedClasses();
        String source = System.getProperty("project.source", "src/main/java/TrafficMatrix.java");
        words(Files.readString(Path.of(source)));
        DUE.end();
    }

    private static void constants() {
        DUE.is("NO_SUCH_NODE", TrafficMatrix.NO_SUCH_NODE, -1);
        DUE.is("SAME_NODE", TrafficMatrix.SAME_NODE, -2);
        DUE.is("NO_SUCH_LINK", TrafficMatrix.NO_SUCH_LINK, -3);
        DUE.is("BAD_VALUE", TrafficMatrix.BAD_VALUE, -4);
        DUE.is("FULL", TrafficMatrix.FULL, -5);
        DUE.is("NO_ROUTE", TrafficMatrix.NO_ROUTE, -6);
        DUE.is("NONE", TrafficMatrix.NONE, -7);
        DUE.is("NO_VALUE", TrafficMatrix.NO_VALUE, Long.MIN_VALUE);
    }

    private static void members() {
        int mode = TrafficMatrix.class.getModifiers();
        DUE.is("public and final", mode & (Modifier.PUBLIC | Modifier.FINAL),
                Modifier.PUBLIC | Modifier.FINAL);
        List<String> seen = new ArrayList<>();
        List<String> hidden = new ArrayList<>();
        for (Method method : TrafficMatrix.class.getDeclaredMethods()) {
            if (Modifier.isPrivate(method.getModifiers())) {
                hidden.add(method.getName());
            } else {
                seen.add(signature(method));
            }
        }
        same("methods", seen, List.of(METHODS));
        for (String name : hidden) {
            DUE.is("private method " + name + " with a public name", isNameOfFace(name) ? 1 : 0, 0);
        }
        List<String> fields = new ArrayList<>();
        for (Field field : TrafficMatrix.class.getDeclaredFields()) {
            if (!Modifier.isPrivate(field.getModifiers())) {
                fields.add(field.getName());
            }
        }
        same("constants", fields, List.of(CONSTANTS));
        Constructor<?>[] constructors = TrafficMatrix.class.getDeclaredConstructors();
        DUE.is("constructors", constructors.length, 1);
        DUE.is("parameters of the constructor", constructors[0].getParameterCount(), 0);
    }

    private static boolean isNameOfFace(String name) {
        return Arrays.stream(METHODS).anyMatch(signature -> signature.contains(" " + name + "("));
    }

    private static String signature(Method method) {
        StringBuilder text = new StringBuilder();
        text.append(method.getReturnType().getName()).append(' ').append(method.getName()).append('(');
        for (int i = 0; i < method.getParameterCount(); i++) {
            text.append(i > 0 ? "," : "").append(method.getParameterTypes()[i].getName());
        }
        return text.append(')').toString();
    }

    private static void same(String what, List<String> got, List<String> want) {
        boolean equal = new TreeSet<>(got).equals(new TreeSet<>(want)) && got.size() == want.size();
        DUE.is(what + " " + got, equal ? 1 : 0, 1);
    }

    private static void nestedClasses() {
        for (Class<?> nested : TrafficMatrix.class.getDeclaredClasses()) {
            int mode = nested.getModifiers();
            DUE.is(nested + " is static", Modifier.isStatic(mode) ? 1 : 0, 1);
            DUE.is(nested + " is not public", mode & (Modifier.PUBLIC | Modifier.PROTECTED), 0);
            for (Method method : nested.getDeclaredMethods()) {
                DUE.is(nested + "." + method.getName() + " with a name of the face",
                        isNameOfFace(method.getName()) ? 1 : 0, 0);
            }
            for (Field field : nested.getDeclaredFields()) {
                int kind = field.getModifiers();
                DUE.is(nested + "." + field.getName() + " is no static variable",
                        Modifier.isStatic(kind) && !Modifier.isFinal(kind) ? 1 : 0, 0);
            }
        }
    }

    private static void words(String source) {
        String code = source.replaceAll("(?s)/\\*.*?\\*/", "").replaceAll("//[^\n]*", "");
        String[] refused = {"\\bthrow\\b", "\\btry\\b", "\\bcatch\\b", "\\bsynchronized\\b",
            "\\bassert\\b", "->", "::", "Exact\\b", "\\bpackage\\b", "\\bRandom\\b", "System\\.(?!arraycopy)",
            "\\bThread\\b", "[^\\x00-\\x7f]"};
        for (String word : refused) {
            Matcher matcher = Pattern.compile(word).matcher(code);
            DUE.is("the source has " + word, matcher.find() ? 1 : 0, 0);
        }
        Matcher imports = Pattern.compile("import ([^;]*);").matcher(code);
        while (imports.find()) {
            DUE.is("import " + imports.group(1), "java.util.Arrays".equals(imports.group(1)) ? 1 : 0, 1);
        }
    }
}
