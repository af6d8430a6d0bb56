/** Promise 1: KEY and SECTOR of a new object are all 0. */
public final class NewObjectTest {
    private static final Checks CHECKS = new Checks();

    public static void main(String[] args) {
        sectorIsZero();
        bothHalvesOfTheKeyAreZero();
        aNewObjectKnowsNothingOfAnOlderOne();
        CHECKS.end();
    }

    private static void sectorIsZero() {
        SectorSeal seal = new SectorSeal();
        CHECKS.dueSector("new", seal, new long[16]);
        CHECKS.dueLong("sum() of a new object", seal.sum(), 0L);
    }

    // AES-128 of the block of zeros under the key of zeros, as many vectors have it.
    private static void bothHalvesOfTheKeyAreZero() {
        SectorSeal seal = new SectorSeal();
        CHECKS.dueLong("block(0, false, false)", seal.block(0, false, false), 0x66e94bd4ef8a2c3bL);
        CHECKS.dueLong("get(1)", seal.get(1), 0x884cfa59ca342b2eL);
        CHECKS.dueLong("block(7, false, true)", seal.block(7, false, true), 0x66e94bd4ef8a2c3bL);
        CHECKS.dueLong("get(15)", seal.get(15), 0x884cfa59ca342b2eL);
    }

    private static void aNewObjectKnowsNothingOfAnOlderOne() {
        SectorSeal older = new SectorSeal();
        older.key(1L, 2L, 3L, 4L);
        older.put(0, 5L);
        older.sector(6, true);
        SectorSeal newer = new SectorSeal();
        CHECKS.dueSector("new beside an older object", newer, new long[16]);
        older.key(7L, 8L, 9L, 10L);
        CHECKS.dueLong("block(0, false, false)", newer.block(0, false, false), 0x66e94bd4ef8a2c3bL);
    }
}
