/** Promise 4: get answers LONG i, changes nothing, and throws as put does. */
public final class GetTest {
    private static final Checks CHECKS = new Checks();

    public static void main(String[] args) {
        answersWhatWasPut();
        answersTheSameAgain();
        answersTheEdgesOfLong();
        takesBothBounds();
        throwsIfTheIndexIsNot0To15();
        throwsWherePutThrows();
        CHECKS.end();
    }

    private static void answersWhatWasPut() {
        SectorSeal seal = new SectorSeal();
        long[] longs = filled(seal);
        CHECKS.dueSector("the puts", seal, longs);
    }

    private static void answersTheSameAgain() {
        SectorSeal seal = new SectorSeal();
        long[] longs = filled(seal);
        for (int i = 0; i < 16; i++) {
            seal.get(i);
        }
        CHECKS.dueSector("the gets", seal, longs);
    }

    private static void answersTheEdgesOfLong() {
        for (int i = 0; i < 16; i++) {
            for (long edge : Edges.LONGS) {
                Pair pair = Pair.filled(CHECKS, 42L);
                pair.put("", i, edge);
                pair.get("", i);
                pair.get("again: ", i);
                pair.everyAnswer("get(" + i + ") of " + edge + ": ");
            }
        }
    }

    private static void takesBothBounds() {
        for (int i : new int[] {0, 1, 14, 15}) {
            Pair pair = Pair.sealed(CHECKS, 41L);
            pair.get("", i);
            pair.everyAnswer("get(" + i + "): ");
        }
    }

    // "Thrown as by put.", which is: "IndexOutOfBoundsException if i is not 0 to 15."
    private static void throwsIfTheIndexIsNot0To15() {
        Refusals refusals = new Refusals(CHECKS, IndexOutOfBoundsException.class);
        for (int i : Edges.outside(16)) {
            refusals.due("get(" + i + ")", seal -> seal.get(i));
        }
    }

    private static void throwsWherePutThrows() {
        for (int i : Edges.ints()) {
            SectorSeal seal = new SectorSeal();
            String byPut = Checks.thrown(() -> seal.put(i, 1L));
            CHECKS.due("get(" + i + ") throws", Checks.thrown(() -> seal.get(i)), byPut);
        }
    }

    private static long[] filled(SectorSeal seal) {
        Numbers numbers = new Numbers(4L);
        long[] longs = new long[16];
        for (int i = 0; i < 16; i++) {
            longs[i] = numbers.next();
            seal.put(i, longs[i]);
        }
        return longs;
    }
}
