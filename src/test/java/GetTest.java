/** Promise 4: get answers LONG i, changes nothing, and throws as put does. */
public final class GetTest {
    private static final Checks CHECKS = new Checks();
    private static final int[] WRONG = {-1, 16, 17, -16, 32, Integer.MIN_VALUE, Integer.MAX_VALUE};

    public static void main(String[] args) {
        answersWhatWasPut();
        answersTheSameAgain();
        throwsOutsideTheSector();
        CHECKS.end();
    }

    private static void answersWhatWasPut() {
        SectorSeal seal = new SectorSeal();
        long[] longs = filled(seal);
        CHECKS.dueSector("the puts", seal, longs);
    }

    private static void answersTheSameAgain() {
        SectorSeal seal = new SectorSeal();
        long[] longs = filled(seal);
        for (int i = 0; i < 16; i++) {
            seal.get(i);
        }
        CHECKS.dueSector("the gets", seal, longs);
    }

    private static void throwsOutsideTheSector() {
        SectorSeal seal = new SectorSeal();
        long[] longs = filled(seal);
        for (int i : WRONG) {
            CHECKS.dueThrows("get(" + i + ")", () -> seal.get(i), IndexOutOfBoundsException.class);
        }
        CHECKS.dueSector("the gets that threw", seal, longs);
    }

    private static long[] filled(SectorSeal seal) {
        Numbers numbers = new Numbers(4L);
        long[] longs = new long[16];
        for (int i = 0; i < 16; i++) {
            longs[i] = numbers.next();
            seal.put(i, longs[i]);
        }
        return longs;
    }
}
