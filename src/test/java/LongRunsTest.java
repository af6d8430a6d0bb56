/** All promises together: runs of 512 calls, which is as long as an object is used. */
public final class LongRunsTest {
    private static final Checks CHECKS = new Checks();
    private static final int RUNS = 60;
    private static final int CALLS = 512;

    public static void main(String[] args) {
        for (int run = 0; run < RUNS; run++) {
            new LongRunsTest(run).calls();
        }
        CHECKS.end();
    }

    private final int run;
    private final Numbers numbers;
    private final SectorSeal seal = new SectorSeal();
    private final Reference reference = new Reference();

    private LongRunsTest(int run) {
        this.run = run;
        this.numbers = new Numbers(run * 1_000_003L);
    }

    private void calls() {
        for (int call = 0; call < CALLS - 16; call++) {
            oneCall("run " + run + ", call " + call + ": ");
        }
        CHECKS.dueSector("run " + run, seal, reference.longs);
    }

    private void oneCall(String where) {
        switch (numbers.below(8)) {
            case 0 -> key();
            case 1, 2 -> put(where, numbers.below(20) - 2, numbers.next());
            case 3 -> get(where, numbers.below(20) - 2);
            case 4, 5 -> sector(where, (int) numbers.next() >> numbers.below(31), numbers.coin());
            case 6 -> block(where, numbers.below(12) - 2, numbers.coin(), numbers.coin());
            default -> CHECKS.dueLong(where + "sum()", seal.sum(), reference.sum());
        }
    }

    private void key() {
        long a = numbers.next();
        long b = numbers.next();
        long c = numbers.next();
        long d = numbers.next();
        seal.key(a, b, c, d);
        reference.key(a, b, c, d);
    }

    private void put(String where, int i, long w) {
        String call = where + "put(" + i + ", " + w + ")";
        if (i < 0 || i > 15) {
            CHECKS.dueThrows(call, () -> seal.put(i, w), IndexOutOfBoundsException.class);
        } else {
            CHECKS.dueLong(call, seal.put(i, w), reference.put(i, w));
        }
    }

    private void get(String where, int i) {
        String call = where + "get(" + i + ")";
        if (i < 0 || i > 15) {
            CHECKS.dueThrows(call, () -> seal.get(i), IndexOutOfBoundsException.class);
        } else {
            CHECKS.dueLong(call, seal.get(i), reference.longs[i]);
        }
    }

    private void sector(String where, int s, boolean seals) {
        String call = where + "sector(" + s + ", " + seals + ")";
        if (s < 0) {
            CHECKS.dueThrows(call, () -> seal.sector(s, seals), IllegalArgumentException.class);
        } else {
            CHECKS.dueLong(call, seal.sector(s, seals), reference.sector(s, seals));
        }
    }

    private void block(String where, int i, boolean deciphers, boolean second) {
        String call = where + "block(" + i + ", " + deciphers + ", " + second + ")";
        if (i < 0 || i > 7) {
            CHECKS.dueThrows(call, () -> seal.block(i, deciphers, second), IndexOutOfBoundsException.class);
        } else {
            CHECKS.dueLong(call, seal.block(i, deciphers, second), reference.block(i, deciphers, second));
        }
    }
}
