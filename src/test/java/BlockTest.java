/** Promise 6: block is AES on two LONGS under one half of the KEY; i is 0 to 7. */
public final class BlockTest {
    private static final Checks CHECKS = new Checks();

    public static void main(String[] args) {
        enciphersFipsAppendixB();
        enciphersAndDeciphersFipsAppendixC();
        changesTheTwoLongsOfItsBlockAlone();
        passesEveryByteThroughBothTables();
        undoesWhatItDid();
        takesTheEdgesOfLong();
        throwsIfTheIndexIsNot0To7();
        CHECKS.end();
    }

    private static void enciphersFipsAppendixB() {
        SectorSeal seal = new SectorSeal();
        seal.key(0x2b7e151628aed2a6L, 0xabf7158809cf4f3cL, 0L, 0L);
        seal.put(0, 0x3243f6a8885a308dL);
        seal.put(1, 0x313198a2e0370734L);
        CHECKS.dueLong("block(0, false, false)", seal.block(0, false, false), 0x3925841d02dc09fbL);
        CHECKS.dueLong("its second long", seal.get(1), 0xdc118597196a0b32L);
    }

    private static void enciphersAndDeciphersFipsAppendixC() {
        SectorSeal seal = new SectorSeal();
        seal.key(-1L, 1L, 0x0001020304050607L, 0x08090a0b0c0d0e0fL);
        seal.put(14, 0x0011223344556677L);
        seal.put(15, 0x8899aabbccddeeffL);
        CHECKS.dueLong("block(7, false, true)", seal.block(7, false, true), 0x69c4e0d86a7b0430L);
        CHECKS.dueLong("its second long", seal.get(15), 0xd8cdb78070b4c55aL);
        CHECKS.dueLong("block(7, true, true)", seal.block(7, true, true), 0x0011223344556677L);
        CHECKS.dueLong("its second long", seal.get(15), 0x8899aabbccddeeffL);
    }

    private static void changesTheTwoLongsOfItsBlockAlone() {
        for (int i = 0; i < 8; i++) {
            for (boolean deciphers : Edges.EITHER) {
                for (boolean second : Edges.EITHER) {
                    both(i, deciphers, second);
                }
            }
        }
    }

    private static void both(int i, boolean deciphers, boolean second) {
        Pair pair = Pair.filled(CHECKS, i);
        pair.block("", i, deciphers, second);
        pair.everyAnswer("block(" + i + ", " + deciphers + ", " + second + "): ");
    }

    // 256 blocks of one byte each reach every entry of both tables in the first round.
    private static void passesEveryByteThroughBothTables() {
        for (int value = 0; value < 256; value++) {
            Pair pair = new Pair(CHECKS);
            for (int i = 0; i < 4; i++) {
                pair.put("", i, value * 0x0101010101010101L);
            }
            pair.block("of byte " + value + ": ", 0, false, false);
            pair.block("of byte " + value + ": ", 1, true, false);
            pair.sameSector("the blocks of byte " + value);
        }
    }

    private static void undoesWhatItDid() {
        for (int i = 0; i < 8; i++) {
            for (boolean second : Edges.EITHER) {
                Pair pair = Pair.filled(CHECKS, 61L);
                long[] plain = pair.reference.longs.clone();
                pair.seal.block(i, false, second);
                pair.seal.block(i, true, second);
                CHECKS.dueSector("block " + i + " enciphered and deciphered", pair.seal, plain);
                pair.seal.block(i, true, second);
                pair.seal.block(i, false, second);
                CHECKS.dueSector("block " + i + " deciphered and enciphered", pair.seal, plain);
            }
        }
    }

    private static void takesTheEdgesOfLong() {
        for (long first : Edges.LONGS) {
            for (long last : Edges.LONGS) {
                for (boolean deciphers : Edges.EITHER) {
                    Pair pair = Pair.filled(CHECKS, 62L);
                    pair.put("", 14, first);
                    pair.put("", 15, last);
                    pair.block("of " + first + ", " + last + ": ", 7, deciphers, false);
                    pair.sameSector("the block of " + first + ", " + last);
                }
            }
        }
    }

    // "IndexOutOfBoundsException if i is not 0 to 7."
    private static void throwsIfTheIndexIsNot0To7() {
        Refusals refusals = new Refusals(CHECKS, IndexOutOfBoundsException.class);
        for (int i : Edges.outside(8)) {
            for (boolean deciphers : Edges.EITHER) {
                for (boolean second : Edges.EITHER) {
                    refusals.due("block(" + i + ", " + deciphers + ", " + second + ")",
                        seal -> seal.block(i, deciphers, second));
                }
            }
        }
    }
}
