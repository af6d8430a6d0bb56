/** Promise 2: the KEY is a, b, c, d, the highest byte of each first. */
public final class KeyTest {
    private static final Checks CHECKS = new Checks();

    public static void main(String[] args) {
        firstHalfIsAThenB();
        secondHalfIsCThenD();
        aNewKeyTakesTheOldOnesPlace();
        keyLeavesTheSectorAlone();
        everyBitOfTheKeyCounts();
        takesTheEdgesOfLongInEveryPlace();
        takesOneEdgeInAllPlaces();
        doesNotLookAtTheSector();
        CHECKS.end();
    }

    // FIPS 197, appendix C.1.
    private static void firstHalfIsAThenB() {
        SectorSeal seal = withPlainBlock();
        seal.key(0x0001020304050607L, 0x08090a0b0c0d0e0fL, -1L, -1L);
        CHECKS.dueLong("block under the first half", seal.block(0, false, false), 0x69c4e0d86a7b0430L);
        CHECKS.dueLong("its second long", seal.get(1), 0xd8cdb78070b4c55aL);
    }

    private static void secondHalfIsCThenD() {
        SectorSeal seal = withPlainBlock();
        seal.key(-1L, -1L, 0x0001020304050607L, 0x08090a0b0c0d0e0fL);
        CHECKS.dueLong("block under the second half", seal.block(0, false, true), 0x69c4e0d86a7b0430L);
        CHECKS.dueLong("its second long", seal.get(1), 0xd8cdb78070b4c55aL);
    }

    private static void aNewKeyTakesTheOldOnesPlace() {
        SectorSeal seal = new SectorSeal();
        seal.key(1L, 2L, 3L, 4L);
        seal.key(0L, 0L, 0L, 0L);
        CHECKS.dueLong("block(0, false, false)", seal.block(0, false, false), 0x66e94bd4ef8a2c3bL);
        CHECKS.dueLong("block(1, false, true)", seal.block(1, false, true), 0x66e94bd4ef8a2c3bL);
    }

    private static void keyLeavesTheSectorAlone() {
        SectorSeal seal = new SectorSeal();
        long[] longs = new long[16];
        for (int i = 0; i < 16; i++) {
            longs[i] = i * 0x0123456789abcdefL;
            seal.put(i, longs[i]);
        }
        seal.key(-1L, Long.MIN_VALUE, Long.MAX_VALUE, 1L);
        CHECKS.dueSector("key", seal, longs);
    }

    private static void everyBitOfTheKeyCounts() {
        for (int bit = 0; bit < 256; bit++) {
            long[] key = new long[4];
            key[bit / 64] = 1L << bit % 64;
            Pair pair = new Pair(CHECKS);
            pair.key(key[0], key[1], key[2], key[3]);
            pair.sector("bit " + bit + " of the key: ", 1, true);
            pair.sameSector("sector(1, true) under bit " + bit + " of the key");
        }
    }

    private static void takesTheEdgesOfLongInEveryPlace() {
        for (int place = 0; place < 4; place++) {
            for (long edge : Edges.LONGS) {
                long[] key = {0x0123456789abcdefL, 0x1032547698badcfeL, 0x2301674589efcdabL, 0x3210765489abcdefL};
                key[place] = edge;
                everyAnswerUnder(key[0], key[1], key[2], key[3]);
            }
        }
    }

    private static void takesOneEdgeInAllPlaces() {
        for (long edge : Edges.LONGS) {
            everyAnswerUnder(edge, edge, edge, edge);
        }
    }

    private static void doesNotLookAtTheSector() {
        for (long edge : Edges.LONGS) {
            Pair pair = new Pair(CHECKS);
            for (int i = 0; i < 16; i++) {
                pair.put("", i, edge);
            }
            pair.key(1L, 2L, 3L, 4L);
            pair.everyAnswer("key over a sector of " + edge + ": ");
        }
    }

    private static void everyAnswerUnder(long a, long b, long c, long d) {
        Pair pair = Pair.sealed(CHECKS, 21L);
        pair.key(a, b, c, d);
        pair.everyAnswer("key(" + a + ", " + b + ", " + c + ", " + d + "): ");
    }

    private static SectorSeal withPlainBlock() {
        SectorSeal seal = new SectorSeal();
        seal.put(0, 0x0011223344556677L);
        seal.put(1, 0x8899aabbccddeeffL);
        return seal;
    }
}
