import java.util.stream.IntStream;

/** Numbers to try a bound with. */
final class Bounds {
    /** Never made, as long as there are fewer than 149 views. */
    static final int[] NO_VIEWS = {-1, -2, 148, 149, 150, 151, 256, -256, 65536,
        Integer.MIN_VALUE, Integer.MIN_VALUE + 1, Integer.MAX_VALUE};

    private Bounds() { }

    static int[] within(int first, int last) {
        return IntStream.rangeClosed(first, last).toArray();
    }

    /** The nearest ones, the farthest ones, and such as would be within if high bits were lost. */
    static int[] outside(int first, int last) {
        int[] numbers = {first - 1, last + 1, first - 2, last + 2, first - 16, last + 16,
            first - 256, first + 256, last + 256, first + 65536, first - 65536,
            Integer.MIN_VALUE, Integer.MIN_VALUE + 1, Integer.MIN_VALUE + last,
            Integer.MAX_VALUE, Integer.MAX_VALUE - 1};
        return IntStream.of(numbers).filter(n -> n < first || n > last).toArray();
    }
}
