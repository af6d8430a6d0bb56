/** Promise 3: put answers what the LONG was before, and throws if i is not 0 to 15. */
public final class PutTest {
    private static final Checks CHECKS = new Checks();
    private static final int[] WRONG = {-1, 16, 17, -16, 32, Integer.MIN_VALUE, Integer.MAX_VALUE};

    public static void main(String[] args) {
        answersWhatWasBefore();
        changesOneLongAlone();
        keepsTheEdgesOfLong();
        throwsOutsideTheSector();
        CHECKS.end();
    }

    private static void answersWhatWasBefore() {
        SectorSeal seal = new SectorSeal();
        for (int i = 0; i < 16; i++) {
            CHECKS.dueLong("the first put(" + i + ")", seal.put(i, 100L + i), 0L);
        }
        for (int i = 0; i < 16; i++) {
            CHECKS.dueLong("the second put(" + i + ")", seal.put(i, -i), 100L + i);
        }
        for (int i = 0; i < 16; i++) {
            CHECKS.dueLong("the third put(" + i + ")", seal.put(i, 0L), -i);
        }
    }

    private static void changesOneLongAlone() {
        for (int i = 0; i < 16; i++) {
            SectorSeal seal = new SectorSeal();
            long[] want = new long[16];
            want[i] = 0xfedcba9876543210L;
            seal.put(i, want[i]);
            CHECKS.dueSector("put(" + i + ")", seal, want);
        }
    }

    private static void keepsTheEdgesOfLong() {
        SectorSeal seal = new SectorSeal();
        seal.put(15, Long.MIN_VALUE);
        CHECKS.dueLong("put over the least long", seal.put(15, Long.MAX_VALUE), Long.MIN_VALUE);
        CHECKS.dueLong("put over the greatest long", seal.put(15, -1L), Long.MAX_VALUE);
        CHECKS.dueLong("put over -1", seal.put(15, 0L), -1L);
    }

    private static void throwsOutsideTheSector() {
        SectorSeal seal = new SectorSeal();
        for (int i : WRONG) {
            CHECKS.dueThrows("put(" + i + ", 1)", () -> seal.put(i, 1L), IndexOutOfBoundsException.class);
        }
        CHECKS.dueSector("the puts that threw", seal, new long[16]);
    }
}
