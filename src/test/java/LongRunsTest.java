/** All promises together: runs of 512 calls, which is as long as an object is used. */
public final class LongRunsTest {
    private static final Checks CHECKS = new Checks();
    private static final int RUNS = 60;
    private static final int CALLS = 512;

    public static void main(String[] args) {
        for (int run = 0; run < RUNS; run++) {
            new LongRunsTest(run).calls();
        }
        CHECKS.end();
    }

    private final int run;
    private final Numbers numbers;
    private final Pair pair = new Pair(CHECKS);

    private LongRunsTest(int run) {
        this.run = run;
        this.numbers = new Numbers(run * 1_000_003L);
    }

    private void calls() {
        for (int call = 0; call < CALLS - 16; call++) {
            oneCall("run " + run + ", call " + call + ": ");
        }
        pair.sameSector("run " + run);
    }

    private void oneCall(String where) {
        switch (numbers.below(8)) {
            case 0 -> pair.key(numbers);
            case 1, 2 -> put(where, numbers.below(20) - 2, numbers.next());
            case 3 -> get(where, numbers.below(20) - 2);
            case 4, 5 -> sector(where, (int) numbers.next() >> numbers.below(31), numbers.coin());
            case 6 -> block(where, numbers.below(12) - 2, numbers.coin(), numbers.coin());
            default -> pair.sum(where);
        }
    }

    private void put(String where, int i, long w) {
        if (i < 0 || i > 15) {
            CHECKS.dueThrows(where + "put(" + i + ")", () -> pair.seal.put(i, w), IndexOutOfBoundsException.class);
        } else {
            pair.put(where, i, w);
        }
    }

    private void get(String where, int i) {
        if (i < 0 || i > 15) {
            CHECKS.dueThrows(where + "get(" + i + ")", () -> pair.seal.get(i), IndexOutOfBoundsException.class);
        } else {
            pair.get(where, i);
        }
    }

    private void sector(String where, int s, boolean seals) {
        if (s < 0) {
            CHECKS.dueThrows(where + "sector(" + s + ")", () -> pair.seal.sector(s, seals),
                IllegalArgumentException.class);
        } else {
            pair.sector(where, s, seals);
        }
    }

    private void block(String where, int i, boolean deciphers, boolean second) {
        if (i < 0 || i > 7) {
            CHECKS.dueThrows(where + "block(" + i + ")", () -> pair.seal.block(i, deciphers, second),
                IndexOutOfBoundsException.class);
        } else {
            pair.block(where, i, deciphers, second);
        }
    }
}
