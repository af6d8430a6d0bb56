/** Promise 7: sum is all LONGS of the SECTOR put together by ^. */
public final class SumTest {
    private static final Checks CHECKS = new Checks();

    public static void main(String[] args) {
        everyLongCountsOnce();
        equalLongsCancel();
        followsASealedSector();
        changesNothing();
        CHECKS.end();
    }

    private static void everyLongCountsOnce() {
        SectorSeal seal = new SectorSeal();
        long want = 0L;
        for (int i = 0; i < 16; i++) {
            long w = 0x8000000000000001L >>> i;
            want ^= w;
            seal.put(i, w);
            CHECKS.dueLong("sum() after put(" + i + ")", seal.sum(), want);
        }
    }

    private static void equalLongsCancel() {
        SectorSeal seal = new SectorSeal();
        seal.put(0, -1L);
        CHECKS.dueLong("sum() of one -1", seal.sum(), -1L);
        seal.put(15, -1L);
        CHECKS.dueLong("sum() of two -1", seal.sum(), 0L);
    }

    private static void followsASealedSector() {
        SectorSeal seal = new SectorSeal();
        Reference reference = new Reference();
        seal.sector(5, true);
        reference.sector(5, true);
        CHECKS.dueLong("sum() after sector(5, true)", seal.sum(), reference.sum());
        seal.block(2, true, true);
        reference.block(2, true, true);
        CHECKS.dueLong("sum() after block(2, true, true)", seal.sum(), reference.sum());
    }

    private static void changesNothing() {
        SectorSeal seal = new SectorSeal();
        Reference reference = new Reference();
        seal.sector(8, true);
        reference.sector(8, true);
        seal.sum();
        CHECKS.dueSector("sum()", seal, reference.longs);
        CHECKS.dueLong("sum() again", seal.sum(), reference.sum());
    }
}
