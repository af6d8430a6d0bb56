/** Promise 1: "KEY and SECTOR are all 0." */
public final class NewObjectTest {
    private static final Checks CHECKS = new Checks();

    public static void main(String[] args) {
        sectorIsZero();
        bothHalvesOfTheKeyAreZero();
        everyLongIsZeroBeforeItsFirstPut();
        everyFirstCallAnswersAsUnderZeros();
        aKeyOfZerosChangesNothing();
        aNewObjectKnowsNothingOfAnOlderOne();
        CHECKS.end();
    }

    private static void sectorIsZero() {
        SectorSeal seal = new SectorSeal();
        CHECKS.dueSector("new", seal, new long[16]);
        CHECKS.dueLong("sum() of a new object", seal.sum(), 0L);
    }

    // AES-128 of the block of zeros under the key of zeros, as many vectors have it.
    private static void bothHalvesOfTheKeyAreZero() {
        SectorSeal seal = new SectorSeal();
        CHECKS.dueLong("block(0, false, false)", seal.block(0, false, false), 0x66e94bd4ef8a2c3bL);
        CHECKS.dueLong("get(1)", seal.get(1), 0x884cfa59ca342b2eL);
        CHECKS.dueLong("block(7, false, true)", seal.block(7, false, true), 0x66e94bd4ef8a2c3bL);
        CHECKS.dueLong("get(15)", seal.get(15), 0x884cfa59ca342b2eL);
    }

    private static void everyLongIsZeroBeforeItsFirstPut() {
        for (int i = 0; i < 16; i++) {
            CHECKS.dueLong("put(" + i + ", -1) on a new object", new SectorSeal().put(i, -1L), 0L);
        }
    }

    private static void everyFirstCallAnswersAsUnderZeros() {
        for (boolean way : Edges.EITHER) {
            for (int s : Edges.fromZero()) {
                Pair pair = new Pair(CHECKS);
                pair.sector("new: ", s, way);
                pair.everyAnswer("new, sector(" + s + ", " + way + "): ");
            }
            for (int i = 0; i < 8; i++) {
                for (boolean second : Edges.EITHER) {
                    Pair pair = new Pair(CHECKS);
                    pair.block("new: ", i, way, second);
                    pair.everyAnswer("new, block(" + i + ", " + way + ", " + second + "): ");
                }
            }
        }
    }

    private static void aKeyOfZerosChangesNothing() {
        SectorSeal keyed = new SectorSeal();
        keyed.key(0L, 0L, 0L, 0L);
        SectorSeal fresh = new SectorSeal();
        CHECKS.dueLong("sector(7, true)", fresh.sector(7, true), keyed.sector(7, true));
        for (int i = 0; i < 16; i++) {
            CHECKS.dueLong("get(" + i + ") of a sealed new object", fresh.get(i), keyed.get(i));
        }
    }

    private static void aNewObjectKnowsNothingOfAnOlderOne() {
        SectorSeal older = new SectorSeal();
        older.key(1L, 2L, 3L, 4L);
        older.put(0, 5L);
        older.sector(6, true);
        SectorSeal newer = new SectorSeal();
        CHECKS.dueSector("new beside an older object", newer, new long[16]);
        older.key(7L, 8L, 9L, 10L);
        CHECKS.dueLong("block(0, false, false)", newer.block(0, false, false), 0x66e94bd4ef8a2c3bL);
    }
}
