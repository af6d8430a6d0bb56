/** Promise 6: block is AES on two LONGS under one half of the KEY, and throws if i is not 0 to 7. */
public final class BlockTest {
    private static final Checks CHECKS = new Checks();
    private static final int[] WRONG = {-1, 8, 9, 15, 16, -8, 0x40000000, 0x7fffffff, 0x80000000, 0x80000001};
    private static final boolean[] EITHER = {false, true};

    public static void main(String[] args) {
        enciphersFipsAppendixB();
        enciphersAndDeciphersFipsAppendixC();
        changesTheTwoLongsOfItsBlockAlone();
        passesEveryByteThroughBothTables();
        throwsOutsideTheSector();
        CHECKS.end();
    }

    private static void enciphersFipsAppendixB() {
        SectorSeal seal = new SectorSeal();
        seal.key(0x2b7e151628aed2a6L, 0xabf7158809cf4f3cL, 0L, 0L);
        seal.put(0, 0x3243f6a8885a308dL);
        seal.put(1, 0x313198a2e0370734L);
        CHECKS.dueLong("block(0, false, false)", seal.block(0, false, false), 0x3925841d02dc09fbL);
        CHECKS.dueLong("its second long", seal.get(1), 0xdc118597196a0b32L);
    }

    private static void enciphersAndDeciphersFipsAppendixC() {
        SectorSeal seal = new SectorSeal();
        seal.key(-1L, 1L, 0x0001020304050607L, 0x08090a0b0c0d0e0fL);
        seal.put(14, 0x0011223344556677L);
        seal.put(15, 0x8899aabbccddeeffL);
        CHECKS.dueLong("block(7, false, true)", seal.block(7, false, true), 0x69c4e0d86a7b0430L);
        CHECKS.dueLong("its second long", seal.get(15), 0xd8cdb78070b4c55aL);
        CHECKS.dueLong("block(7, true, true)", seal.block(7, true, true), 0x0011223344556677L);
        CHECKS.dueLong("its second long", seal.get(15), 0x8899aabbccddeeffL);
    }

    private static void changesTheTwoLongsOfItsBlockAlone() {
        for (int i = 0; i < 8; i++) {
            for (boolean deciphers : EITHER) {
                for (boolean second : EITHER) {
                    both(i, deciphers, second);
                }
            }
        }
    }

    private static void both(int i, boolean deciphers, boolean second) {
        Numbers numbers = new Numbers(i);
        SectorSeal seal = new SectorSeal();
        Reference reference = new Reference();
        fill(seal, reference, numbers);
        String call = "block(" + i + ", " + deciphers + ", " + second + ")";
        CHECKS.dueLong(call, seal.block(i, deciphers, second), reference.block(i, deciphers, second));
        CHECKS.dueSector(call, seal, reference.longs);
    }

    // 256 blocks of one byte each reach every entry of both tables in the first round.
    private static void passesEveryByteThroughBothTables() {
        for (int value = 0; value < 256; value++) {
            SectorSeal seal = new SectorSeal();
            Reference reference = new Reference();
            long w = value * 0x0101010101010101L;
            for (int i = 0; i < 4; i++) {
                seal.put(i, w);
                reference.put(i, w);
            }
            seal.block(0, false, false);
            reference.block(0, false, false);
            seal.block(1, true, false);
            reference.block(1, true, false);
            CHECKS.dueSector("the blocks of byte " + value, seal, reference.longs);
        }
    }

    private static void throwsOutsideTheSector() {
        SectorSeal seal = new SectorSeal();
        Reference reference = new Reference();
        fill(seal, reference, new Numbers(6L));
        for (int i : WRONG) {
            for (boolean deciphers : EITHER) {
                for (boolean second : EITHER) {
                    CHECKS.dueThrows("block(" + i + ", " + deciphers + ", " + second + ")",
                        () -> seal.block(i, deciphers, second), IndexOutOfBoundsException.class);
                }
            }
        }
        CHECKS.dueSector("the blocks that threw", seal, reference.longs);
    }

    private static void fill(SectorSeal seal, Reference reference, Numbers numbers) {
        long a = numbers.next();
        long b = numbers.next();
        long c = numbers.next();
        long d = numbers.next();
        seal.key(a, b, c, d);
        reference.key(a, b, c, d);
        for (int i = 0; i < 16; i++) {
            long w = numbers.next();
            seal.put(i, w);
            reference.put(i, w);
        }
    }
}
