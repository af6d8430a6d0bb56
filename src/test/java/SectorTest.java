/** Promise 5: sector seals and opens as XTS-AES-128, and throws if s is below 0. */
public final class SectorTest {
    private static final Checks CHECKS = new Checks();
    private static final int[] NUMBERS = {
        0, 1, 2, 0x7f, 0x80, 0xff, 0x100, 0x8000, 0xffff, 0x10000, 0x123456, 0x800000,
        0x01000000, 0x01020304, 0x40000000, Integer.MAX_VALUE - 1, Integer.MAX_VALUE
    };

    public static void main(String[] args) {
        sealsIeeeVector1();
        sealsTheBeginningOfIeeeVectors4And5();
        sealsAndOpensUnderEveryKindOfNumber();
        opensWhatWasNeverSealed();
        reducesTheTweakWhenItOverflows();
        sealsTwiceAndOpensTwice();
        throwsBelowZero();
        CHECKS.end();
    }

    private static void sealsIeeeVector1() {
        SectorSeal seal = new SectorSeal();
        CHECKS.dueLong("sector(0, true)", seal.sector(0, true), 0x917cf69ebd68b2ecL);
        CHECKS.dueSector("vector 1", seal, new long[] {
            0x917cf69ebd68b2ecL, 0x9b9fe9a3eadda692L, 0xcd43d2f59598ed85L, 0x8c02c2652fbf922eL
        });
        CHECKS.dueLong("sector(0, false)", seal.sector(0, false), 0L);
        CHECKS.dueSector("opening vector 1", seal, new long[16]);
    }

    // The vectors' sectors are of 512 bytes; their first 128 do not depend on the others.
    // Vector 5 is what vector 4 became, sealed once more as number 1.
    private static void sealsTheBeginningOfIeeeVectors4And5() {
        SectorSeal seal = new SectorSeal();
        seal.key(0x2718281828459045L, 0x2353602874713526L, 0x3141592653589793L, 0x2384626433832795L);
        long[] plain = new long[16];
        for (int i = 0; i < 16; i++) {
            plain[i] = 0x0001020304050607L + i * 0x0808080808080808L;
            seal.put(i, plain[i]);
        }
        CHECKS.dueLong("sector(0, true)", seal.sector(0, true), 0x27a7479befa1d476L);
        CHECKS.dueSector("vector 4", seal, new long[] {
            0x27a7479befa1d476L, 0x489f308cd4cfa6e2L, 0xa96e4bbe3208ff25L, 0x287dd3819616e89cL,
            0xc78cf7f5e543445fL, 0x8333d8fa7f560000L, 0x05279fa5d8b5e4adL, 0x40e736ddb4d35412L,
            0x328063fd2aab53e5L, 0xea1e0a9f332500a5L, 0xdf9487d07a5c92ccL, 0x512c8866c7e860ceL,
            0x93fdf166a24912b4L, 0x22976146ae20ce84L, 0x6bb7dc9ba94a767aL, 0xaef20c0d61ad0265L
        });
        CHECKS.dueLong("sector(1, true)", seal.sector(1, true), 0x264d3ca8512194feL);
        CHECKS.dueSector("vector 5", seal, new long[] {
            0x264d3ca8512194feL, 0xc312c8c9891f279fL, 0xefdd608d0c027b60L, 0x483a3fa811d65ee5L,
            0x9d52d9e40ec5672dL, 0x81532b38b6b089ceL, 0x951f0f9c35590b8bL, 0x978d175213f329bbL,
            0x1c2fd30f2f7f3049L, 0x2a61a532a79f51d3L, 0x6f5e31a7c9a12c28L, 0x6082ff7d2394d18fL,
            0x783e1a8e72c722caL, 0xaaa52d8f065657d2L, 0x631fd25bfd8e5baaL, 0xd6e527d763517501L
        });
        CHECKS.dueLong("sector(1, false)", seal.sector(1, false), 0x27a7479befa1d476L);
        CHECKS.dueLong("sector(0, false)", seal.sector(0, false), plain[0]);
        CHECKS.dueSector("opening vectors 5 and 4", seal, plain);
    }

    private static void sealsAndOpensUnderEveryKindOfNumber() {
        for (int s : NUMBERS) {
            Pair pair = Pair.filled(CHECKS, s);
            long[] plain = pair.reference.longs.clone();
            both(pair, s, true);
            pair.seal.sector(s, false);
            CHECKS.dueSector("sealing and opening as " + s, pair.seal, plain);
        }
    }

    private static void opensWhatWasNeverSealed() {
        for (int s : NUMBERS) {
            both(Pair.filled(CHECKS, s + 1000L), s, false);
        }
    }

    // Some forty keys: the tweak's top bit is set in about half of all doublings.
    private static void reducesTheTweakWhenItOverflows() {
        for (int start = 0; start < 40; start++) {
            Pair pair = Pair.filled(CHECKS, 5000L + start);
            both(pair, start, true);
            both(pair, start + 1, false);
        }
    }

    private static void sealsTwiceAndOpensTwice() {
        Pair pair = Pair.filled(CHECKS, 77L);
        long[] plain = pair.reference.longs.clone();
        both(pair, 3, true);
        both(pair, 4, true);
        both(pair, 4, false);
        both(pair, 3, false);
        CHECKS.dueSector("opening in the other order", pair.seal, plain);
    }

    private static void throwsBelowZero() {
        Pair pair = Pair.filled(CHECKS, 99L);
        for (int s : new int[] {-1, -2, -0x01020304, Integer.MIN_VALUE, Integer.MIN_VALUE + 1}) {
            for (boolean seals : new boolean[] {true, false}) {
                CHECKS.dueThrows("sector(" + s + ", " + seals + ")", () -> pair.seal.sector(s, seals),
                    IllegalArgumentException.class);
            }
        }
        pair.sameSector("the calls that threw");
        both(pair, 0, true);
    }

    private static void both(Pair pair, int s, boolean seals) {
        pair.sector("", s, seals);
        pair.sameSector("sector(" + s + ", " + seals + ")");
    }
}
