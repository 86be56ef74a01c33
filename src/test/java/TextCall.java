import java.lang.reflect.InvocationTargetException;
import java.lang.reflect.Method;
import java.util.Arrays;
import java.util.regex.Matcher;
import java.util.regex.Pattern;

/** A call with its answer as a text tells them, such as the document's "addLink(0, 1, 1) = 0". */
record TextCall(String name, int[] arguments, long want) {
    private static final Pattern CALL = Pattern.compile("(\\w+)\\(([-\\d, ]*)\\)");

    /** The answer is a number or the name of a constant. Null if the text is no call. */
    static TextCall of(String call, String answer) {
        Matcher matcher = CALL.matcher(call.strip());
        if (!matcher.matches()) {
            return null;
        }
        String list = matcher.group(2).strip();
        int[] arguments = list.isEmpty() ? new int[0]
                : Arrays.stream(list.split(",")).map(String::strip).mapToInt(Integer::parseInt).toArray();
        return new TextCall(matcher.group(1), arguments, valueOf(answer.strip()));
    }

    static long valueOf(String text) {
        if (text.matches("-?\\d+")) {
            return Long.parseLong(text);
        }
        try {
            String name = text.replace("Long.", "");
            Class<?> home = text.startsWith("Long.") ? Long.class : TrafficMatrix.class;
            return home.getField(name).getLong(null);
        } catch (ReflectiveOperationException e) {
            throw new IllegalArgumentException("neither a number nor a constant: " + text, e);
        }
    }

    long answerOf(TrafficMatrix x) throws ReflectiveOperationException {
        Class<?>[] kinds = new Class<?>[arguments.length];
        Arrays.fill(kinds, int.class);
        Method method = TrafficMatrix.class.getMethod(name, kinds);
        try {
            return ((Number) method.invoke(x, Arrays.stream(arguments).boxed().toArray())).longValue();
        } catch (InvocationTargetException e) {
            throw new IllegalStateException(told() + " threw", e.getCause());
        }
    }

    String told() {
        String list = Arrays.toString(arguments);
        return name + "(" + list.substring(1, list.length() - 1) + ")";
    }
}
