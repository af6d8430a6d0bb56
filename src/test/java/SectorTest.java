import java.math.BigInteger;
import java.util.Set;
import java.util.TreeSet;

/** Promise 5: sector seals and opens as XTS-AES-128; s is not below 0. */
public final class SectorTest {
    private static final Checks CHECKS = new Checks();

    public static void main(String[] args) {
        sealsIeeeVector1();
        sealsTheBeginningOfIeeeVectors4And5();
        sealsAndOpensUnderEveryKindOfNumber();
        opensWhatWasNeverSealed();
        takesTheNumberLowestByteFirst();
        carriesAtEveryDoubling();
        givesEachBlockATweakOfItsOwn();
        sealsTwiceAndOpensTwice();
        takesTheEdgesOfLong();
        throwsBelowZero();
        CHECKS.end();
    }

    private static void sealsIeeeVector1() {
        SectorSeal seal = new SectorSeal();
        CHECKS.dueLong("sector(0, true)", seal.sector(0, true), 0x917cf69ebd68b2ecL);
        CHECKS.dueSector("vector 1", seal, new long[] {
            0x917cf69ebd68b2ecL, 0x9b9fe9a3eadda692L, 0xcd43d2f59598ed85L, 0x8c02c2652fbf922eL
        });
        CHECKS.dueLong("sector(0, false)", seal.sector(0, false), 0L);
        CHECKS.dueSector("opening vector 1", seal, new long[16]);
    }

    // The vectors' sectors are of 512 bytes; their first 128 do not depend on the others.
    // Vector 5 is what vector 4 became, sealed once more as number 1.
    private static void sealsTheBeginningOfIeeeVectors4And5() {
        SectorSeal seal = new SectorSeal();
        seal.key(0x2718281828459045L, 0x2353602874713526L, 0x3141592653589793L, 0x2384626433832795L);
        long[] plain = new long[16];
        for (int i = 0; i < 16; i++) {
            plain[i] = 0x0001020304050607L + i * 0x0808080808080808L;
            seal.put(i, plain[i]);
        }
        CHECKS.dueLong("sector(0, true)", seal.sector(0, true), 0x27a7479befa1d476L);
        CHECKS.dueSector("vector 4", seal, new long[] {
            0x27a7479befa1d476L, 0x489f308cd4cfa6e2L, 0xa96e4bbe3208ff25L, 0x287dd3819616e89cL,
            0xc78cf7f5e543445fL, 0x8333d8fa7f560000L, 0x05279fa5d8b5e4adL, 0x40e736ddb4d35412L,
            0x328063fd2aab53e5L, 0xea1e0a9f332500a5L, 0xdf9487d07a5c92ccL, 0x512c8866c7e860ceL,
            0x93fdf166a24912b4L, 0x22976146ae20ce84L, 0x6bb7dc9ba94a767aL, 0xaef20c0d61ad0265L
        });
        CHECKS.dueLong("sector(1, true)", seal.sector(1, true), 0x264d3ca8512194feL);
        CHECKS.dueSector("vector 5", seal, new long[] {
            0x264d3ca8512194feL, 0xc312c8c9891f279fL, 0xefdd608d0c027b60L, 0x483a3fa811d65ee5L,
            0x9d52d9e40ec5672dL, 0x81532b38b6b089ceL, 0x951f0f9c35590b8bL, 0x978d175213f329bbL,
            0x1c2fd30f2f7f3049L, 0x2a61a532a79f51d3L, 0x6f5e31a7c9a12c28L, 0x6082ff7d2394d18fL,
            0x783e1a8e72c722caL, 0xaaa52d8f065657d2L, 0x631fd25bfd8e5baaL, 0xd6e527d763517501L
        });
        CHECKS.dueLong("sector(1, false)", seal.sector(1, false), 0x27a7479befa1d476L);
        CHECKS.dueLong("sector(0, false)", seal.sector(0, false), plain[0]);
        CHECKS.dueSector("opening vectors 5 and 4", seal, plain);
    }

    private static void sealsAndOpensUnderEveryKindOfNumber() {
        for (int s : Edges.fromZero()) {
            Pair pair = Pair.filled(CHECKS, s);
            long[] plain = pair.reference.longs.clone();
            both(pair, s, true);
            pair.seal.sector(s, false);
            CHECKS.dueSector("sealing and opening as " + s, pair.seal, plain);
        }
    }

    private static void opensWhatWasNeverSealed() {
        for (int s : Edges.fromZero()) {
            both(Pair.filled(CHECKS, s + 1000L), s, false);
        }
    }

    // "s as 16 bytes, the lowest first, as IEEE 1619 has it"
    private static void takesTheNumberLowestByteFirst() {
        firstBlockIsUnder(0x00000000, 0x0000000000000000L);
        firstBlockIsUnder(0x00000001, 0x0100000000000000L);
        firstBlockIsUnder(0x00000080, 0x8000000000000000L);
        firstBlockIsUnder(0x000000ff, 0xff00000000000000L);
        firstBlockIsUnder(0x00000100, 0x0001000000000000L);
        firstBlockIsUnder(0x00008000, 0x0080000000000000L);
        firstBlockIsUnder(0x00010000, 0x0000010000000000L);
        firstBlockIsUnder(0x00800000, 0x0000800000000000L);
        firstBlockIsUnder(0x01000000, 0x0000000100000000L);
        firstBlockIsUnder(0x01020304, 0x0403020100000000L);
        firstBlockIsUnder(0x40000000, 0x0000004000000000L);
        firstBlockIsUnder(Integer.MAX_VALUE, 0xffffff7f00000000L);
    }

    private static void firstBlockIsUnder(int s, long numberAsBytes) {
        for (boolean seals : Edges.EITHER) {
            firstBlockIsUnder(s, numberAsBytes, seals);
        }
    }

    // XTS by hand on the first block, where the tweak is not doubled yet: block does the AES,
    // under the second half of the KEY for the tweak and under the first for the data.
    private static void firstBlockIsUnder(int s, long numberAsBytes, boolean seals) {
        SectorSeal byHand = Pair.filled(CHECKS, 51L).seal;
        SectorSeal seal = Pair.filled(CHECKS, 51L).seal;
        byHand.put(14, numberAsBytes);
        byHand.put(15, 0L);
        byHand.block(7, false, true);
        long first = byHand.get(14);
        long last = byHand.get(15);
        byHand.put(0, byHand.get(0) ^ first);
        byHand.put(1, byHand.get(1) ^ last);
        byHand.block(0, !seals, false);
        String call = "sector(" + s + ", " + seals + ")";
        CHECKS.dueLong(call, seal.sector(s, seals), byHand.get(0) ^ first);
        CHECKS.dueLong("get(1) after " + call, seal.get(1), byHand.get(1) ^ last);
    }

    // Each of the seven doublings wraps round or not, and carries from the first LONG to the last or not.
    private static void carriesAtEveryDoubling() {
        for (int i = 0; i < 7; i++) {
            for (boolean wraps : Edges.EITHER) {
                for (boolean carries : Edges.EITHER) {
                    int s = numberWhoseTweak(i, wraps, carries);
                    both(Pair.filled(CHECKS, 52L), s, true);
                    both(Pair.filled(CHECKS, 52L), s, false);
                }
            }
        }
    }

    private static int numberWhoseTweak(int i, boolean wraps, boolean carries) {
        Reference reference = Pair.filled(CHECKS, 52L).reference;
        for (int s = 0; s < 1000; s++) {
            BigInteger tweak = reference.tweak(s, i);
            if (tweak.testBit(127) == wraps && tweak.testBit(63) == carries) {
                return s;
            }
        }
        throw new IllegalStateException("no such tweak among the first numbers");
    }

    // "each block of a sector under a tweak of its own"
    private static void givesEachBlockATweakOfItsOwn() {
        for (boolean seals : Edges.EITHER) {
            SectorSeal seal = new SectorSeal();
            seal.sector(0, seals);
            Set<String> blocks = new TreeSet<>();
            for (int i = 0; i < 16; i += 2) {
                blocks.add(seal.get(i) + " " + seal.get(i + 1));
            }
            CHECKS.due("different blocks out of eight equal ones", blocks.size(), 8);
        }
    }

    private static void sealsTwiceAndOpensTwice() {
        Pair pair = Pair.filled(CHECKS, 77L);
        long[] plain = pair.reference.longs.clone();
        both(pair, 3, true);
        both(pair, 4, true);
        both(pair, 4, false);
        both(pair, 3, false);
        CHECKS.dueSector("opening in the other order", pair.seal, plain);
    }

    private static void takesTheEdgesOfLong() {
        for (long edge : Edges.LONGS) {
            for (boolean seals : Edges.EITHER) {
                Pair pair = Pair.filled(CHECKS, 53L);
                for (int i = 0; i < 16; i++) {
                    pair.put("", i, edge);
                }
                both(pair, Integer.MAX_VALUE, seals);
            }
        }
    }

    // "IllegalArgumentException if s is below 0."
    private static void throwsBelowZero() {
        Refusals refusals = new Refusals(CHECKS, IllegalArgumentException.class);
        for (int s : Edges.belowZero()) {
            for (boolean seals : Edges.EITHER) {
                refusals.due("sector(" + s + ", " + seals + ")", seal -> seal.sector(s, seals));
            }
        }
    }

    private static void both(Pair pair, int s, boolean seals) {
        pair.sector("", s, seals);
        pair.sameSector("sector(" + s + ", " + seals + ")");
    }
}
