import java.util.Arrays;
import java.util.stream.IntStream;

/** The arguments at which a range is tried. */
final class Edges {
    // five times the first two, and ten times the third, wrap around to 4, 3 and 4
    private static final int[] WRAPPING = {858993460, 1717986919, 429496730, 1 << 30, 1 << 16, 1 << 8};

    private Edges() {
    }

    static int[] inside(int least, int greatest) {
        return IntStream.of(least, least + 1, greatest - 1, greatest)
                .filter(value -> value >= least && value <= greatest).distinct().toArray();
    }

    /** The next ones on either side, the least and greatest ints, and what a wrap would bring inside. */
    static int[] outside(int least, int greatest) {
        IntStream near = IntStream.of(least - 1, greatest + 1, least - 2, greatest + 2,
                Integer.MIN_VALUE, Integer.MIN_VALUE + 1, Integer.MAX_VALUE - 1, Integer.MAX_VALUE,
                least + Integer.MIN_VALUE, greatest + Integer.MIN_VALUE, -least, -greatest);
        IntStream far = Arrays.stream(WRAPPING)
                .flatMap(value -> IntStream.of(value, value + least, value + greatest, -value));
        return IntStream.concat(near, far)
                .filter(value -> value < least || value > greatest).distinct().toArray();
    }

    static boolean isInside(int value, int least, int greatest) {
        return value >= least && value <= greatest;
    }

    /** Both together, for methods whose arguments are tried in all combinations. */
    static int[] of(int least, int greatest) {
        return IntStream.concat(Arrays.stream(inside(least, greatest)),
                Arrays.stream(outside(least, greatest))).toArray();
    }

    /** Fewer of them, where three arguments are combined. */
    static int[] few(int least, int greatest) {
        return IntStream.of(least, greatest, least - 1, greatest + 1,
                Integer.MIN_VALUE, Integer.MAX_VALUE).distinct().toArray();
    }
}
