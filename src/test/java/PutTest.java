/** Promise 3: LONG i becomes w, the answer is what it was before; i is 0 to 15. */
public final class PutTest {
    private static final Checks CHECKS = new Checks();

    public static void main(String[] args) {
        answersWhatWasBefore();
        changesOneLongAlone();
        keepsTheEdgesOfLong();
        takesBothBounds();
        throwsIfTheIndexIsNot0To15();
        CHECKS.end();
    }

    private static void answersWhatWasBefore() {
        SectorSeal seal = new SectorSeal();
        for (int i = 0; i < 16; i++) {
            CHECKS.dueLong("the first put(" + i + ")", seal.put(i, 100L + i), 0L);
        }
        for (int i = 0; i < 16; i++) {
            CHECKS.dueLong("the second put(" + i + ")", seal.put(i, -i), 100L + i);
        }
        for (int i = 0; i < 16; i++) {
            CHECKS.dueLong("the third put(" + i + ")", seal.put(i, 0L), -i);
        }
    }

    private static void changesOneLongAlone() {
        for (int i = 0; i < 16; i++) {
            SectorSeal seal = new SectorSeal();
            long[] want = new long[16];
            want[i] = 0xfedcba9876543210L;
            seal.put(i, want[i]);
            CHECKS.dueSector("put(" + i + ")", seal, want);
        }
    }

    private static void keepsTheEdgesOfLong() {
        for (int i = 0; i < 16; i++) {
            SectorSeal seal = new SectorSeal();
            long before = 0L;
            for (long edge : Edges.LONGS) {
                CHECKS.dueLong("put(" + i + ", " + edge + ")", seal.put(i, edge), before);
                CHECKS.dueLong("get(" + i + ") after put(" + i + ", " + edge + ")", seal.get(i), edge);
                before = edge;
            }
        }
    }

    private static void takesBothBounds() {
        for (int i : new int[] {0, 1, 14, 15}) {
            Pair pair = Pair.sealed(CHECKS, 31L);
            pair.put("", i, Long.MIN_VALUE);
            pair.put("", i, Long.MIN_VALUE);
            pair.everyAnswer("put(" + i + "): ");
        }
    }

    // "IndexOutOfBoundsException if i is not 0 to 15."
    private static void throwsIfTheIndexIsNot0To15() {
        Refusals refusals = new Refusals(CHECKS, IndexOutOfBoundsException.class);
        for (int i : Edges.outside(16)) {
            for (long w : new long[] {0L, 1L, -1L, Long.MIN_VALUE, Long.MAX_VALUE}) {
                refusals.due("put(" + i + ", " + w + ")", seal -> seal.put(i, w));
            }
        }
    }
}
