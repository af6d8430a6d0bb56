/** Promise 7: "All LONGS of the SECTOR put together by ^." */
public final class SumTest {
    private static final Checks CHECKS = new Checks();

    public static void main(String[] args) {
        everyLongCountsOnce();
        everyLongCountsAlone();
        equalLongsCancel();
        neverCarries();
        followsASealedSector();
        changesNothing();
        CHECKS.end();
    }

    private static void everyLongCountsOnce() {
        SectorSeal seal = new SectorSeal();
        long want = 0L;
        for (int i = 0; i < 16; i++) {
            long w = 0x8000000000000001L >>> i;
            want ^= w;
            seal.put(i, w);
            CHECKS.dueLong("sum() after put(" + i + ")", seal.sum(), want);
        }
    }

    private static void everyLongCountsAlone() {
        for (int i = 0; i < 16; i++) {
            for (long edge : Edges.LONGS) {
                SectorSeal seal = new SectorSeal();
                seal.put(i, edge);
                CHECKS.dueLong("sum() after put(" + i + ", " + edge + ")", seal.sum(), edge);
            }
        }
    }

    private static void neverCarries() {
        for (long edge : Edges.LONGS) {
            SectorSeal seal = new SectorSeal();
            for (int i = 0; i < 16; i++) {
                seal.put(i, edge);
                long want = i % 2 == 0 ? edge : 0L;
                CHECKS.dueLong("sum() of " + (i + 1) + " times " + edge, seal.sum(), want);
            }
        }
    }

    private static void equalLongsCancel() {
        SectorSeal seal = new SectorSeal();
        seal.put(0, -1L);
        CHECKS.dueLong("sum() of one -1", seal.sum(), -1L);
        seal.put(15, -1L);
        CHECKS.dueLong("sum() of two -1", seal.sum(), 0L);
    }

    private static void followsASealedSector() {
        Pair pair = new Pair(CHECKS);
        pair.sector("", 5, true);
        pair.sum("after sector: ");
        pair.block("", 2, true, true);
        pair.sum("after block: ");
    }

    private static void changesNothing() {
        Pair pair = Pair.filled(CHECKS, 7L);
        pair.sum("");
        pair.everyAnswer("sum(): ");
        pair.sum("again: ");
    }
}
