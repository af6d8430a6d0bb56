import java.util.Set;
import java.util.TreeSet;

/** Values on both sides of every bound, out to the least and the greatest of their type. */
final class Edges {
    static final boolean[] EITHER = {false, true};

    // Those with bit 31 or bit 63 set show a half that was widened with its sign.
    static final long[] LONGS = {
        0L, 1L, -1L, Long.MIN_VALUE, Long.MIN_VALUE + 1, Long.MAX_VALUE - 1, Long.MAX_VALUE,
        0x7fffffffL, 0x80000000L, 0xffffffffL, 0x100000000L, 0x7fffffff80000000L, -0x80000000L, -0x80000001L
    };

    private Edges() {
    }

    /** The powers of two, what stands beside them, and all of these below 0. */
    static Set<Integer> ints() {
        Set<Integer> all = new TreeSet<>();
        for (int bit = 0; bit < 32; bit++) {
            for (int beside = -1; beside <= 1; beside++) {
                all.add((1 << bit) + beside);
                all.add(-(1 << bit) + beside);
            }
        }
        return all;
    }

    /** Indices that are not 0 to count - 1. */
    static Set<Integer> outside(int count) {
        Set<Integer> all = ints();
        for (int step = 0; step <= count; step++) {
            all.add(-1 - step);
            all.add(count + step);
            // Twice this one wraps round to an index inside the sector.
            all.add(Integer.MIN_VALUE + step);
            all.add(Integer.MAX_VALUE - step);
        }
        all.removeIf(i -> i >= 0 && i < count);
        return all;
    }

    static Set<Integer> belowZero() {
        Set<Integer> all = ints();
        all.removeIf(s -> s >= 0);
        return all;
    }

    static Set<Integer> fromZero() {
        Set<Integer> all = ints();
        all.removeIf(s -> s < 0);
        return all;
    }
}
