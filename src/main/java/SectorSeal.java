/**
 * AES with keys of 128 bits (FIPS 197), and a sector of 128 bytes sealed by it
 * as XTS-AES-128 (IEEE 1619, without parts of a block).
 */
public final class SectorSeal {
    private static final int LONGS = 16;
    private static final int BLOCKS = 8;

    private final long[] longs = new long[LONGS];
    // Kept with the object, as the key schedules are, so that no call makes an array.
    private final long[] tweak = new long[2];
    private final Aes dataCipher = new Aes();
    private final Aes tweakCipher = new Aes();

    public SectorSeal() {
        // A key of zeros has round keys that are not all zero.
        dataCipher.expand(0L, 0L);
        tweakCipher.expand(0L, 0L);
    }

    public void key(long a, long b, long c, long d) {
        dataCipher.expand(a, b);
        tweakCipher.expand(c, d);
    }

    public long put(int i, long w) throws IndexOutOfBoundsException {
        if (i < 0 || i >= LONGS) {
            throw new IndexOutOfBoundsException("a long's index is 0 to 15");
        }
        long before = longs[i];
        longs[i] = w;
        return before;
    }

    public long get(int i) throws IndexOutOfBoundsException {
        if (i < 0 || i >= LONGS) {
            throw new IndexOutOfBoundsException("a long's index is 0 to 15");
        }
        return longs[i];
    }

    public long sector(int s, boolean seals) throws IllegalArgumentException {
        if (s < 0) {
            throw new IllegalArgumentException("a sector's number is not below 0");
        }
        startTweak(s);
        for (int at = 0; at < LONGS; at += 2) {
            mask(at);
            if (seals) {
                dataCipher.encipher(longs, at);
            } else {
                dataCipher.decipher(longs, at);
            }
            mask(at);
            doubleTweak();
        }
        return longs[0];
    }

    public long block(int i, boolean deciphers, boolean second) throws IndexOutOfBoundsException {
        if (i < 0 || i >= BLOCKS) {
            throw new IndexOutOfBoundsException("a block's index is 0 to 7");
        }
        Aes cipher = second ? tweakCipher : dataCipher;
        int at = 2 * i;
        if (deciphers) {
            cipher.decipher(longs, at);
        } else {
            cipher.encipher(longs, at);
        }
        return longs[at];
    }

    public long sum() {
        long all = 0L;
        for (int i = 0; i < LONGS; i++) {
            all ^= longs[i];
        }
        return all;
    }

    // The tweak is enciphered when a sector is opened too: only data is ever deciphered.
    private void startTweak(int s) {
        tweak[0] = lowestByteFirst(s);
        tweak[1] = 0L;
        tweakCipher.encipher(tweak, 0);
    }

    private static long lowestByteFirst(int s) {
        long lowHalf = (s & 0xffL) << 8 | (s >>> 8 & 0xffL);
        long highHalf = (s >>> 16 & 0xffL) << 8 | (s >>> 24 & 0xffL);
        return lowHalf << 48 | highHalf << 32;
    }

    private void mask(int at) {
        longs[at] ^= tweak[0];
        longs[at + 1] ^= tweak[1];
    }

    // IEEE 1619 counts the tweak's first byte as the lowest, but it is the highest
    // of its long here: so a byte's top bit is carried to the byte on its right.
    private void doubleTweak() {
        long first = tweak[0];
        long last = tweak[1];
        long carriedOver = first >>> 7 & 1L;
        long carriedOut = last >>> 7 & 1L;
        tweak[0] = doubleBytes(first) ^ (carriedOut * 0x87L) << 56;
        tweak[1] = doubleBytes(last) ^ carriedOver << 56;
    }

    private static long doubleBytes(long w) {
        return (w & 0x7f7f7f7f7f7f7f7fL) << 1 | (w >>> 15 & 0x0001010101010101L);
    }

    /** One key's schedule; a column of the state is an int, its highest byte in row 0. */
    private static final class Aes {
        private static final int LAST_ROUND = 10;
        private static final int KEY_WORDS = 4;
        private static final int SCHEDULE_WORDS = KEY_WORDS * (LAST_ROUND + 1);

        private static final int[] S_BOX = {
            0x63, 0x7c, 0x77, 0x7b, 0xf2, 0x6b, 0x6f, 0xc5, 0x30, 0x01, 0x67, 0x2b, 0xfe, 0xd7, 0xab, 0x76,
            0xca, 0x82, 0xc9, 0x7d, 0xfa, 0x59, 0x47, 0xf0, 0xad, 0xd4, 0xa2, 0xaf, 0x9c, 0xa4, 0x72, 0xc0,
            0xb7, 0xfd, 0x93, 0x26, 0x36, 0x3f, 0xf7, 0xcc, 0x34, 0xa5, 0xe5, 0xf1, 0x71, 0xd8, 0x31, 0x15,
            0x04, 0xc7, 0x23, 0xc3, 0x18, 0x96, 0x05, 0x9a, 0x07, 0x12, 0x80, 0xe2, 0xeb, 0x27, 0xb2, 0x75,
            0x09, 0x83, 0x2c, 0x1a, 0x1b, 0x6e, 0x5a, 0xa0, 0x52, 0x3b, 0xd6, 0xb3, 0x29, 0xe3, 0x2f, 0x84,
            0x53, 0xd1, 0x00, 0xed, 0x20, 0xfc, 0xb1, 0x5b, 0x6a, 0xcb, 0xbe, 0x39, 0x4a, 0x4c, 0x58, 0xcf,
            0xd0, 0xef, 0xaa, 0xfb, 0x43, 0x4d, 0x33, 0x85, 0x45, 0xf9, 0x02, 0x7f, 0x50, 0x3c, 0x9f, 0xa8,
            0x51, 0xa3, 0x40, 0x8f, 0x92, 0x9d, 0x38, 0xf5, 0xbc, 0xb6, 0xda, 0x21, 0x10, 0xff, 0xf3, 0xd2,
            0xcd, 0x0c, 0x13, 0xec, 0x5f, 0x97, 0x44, 0x17, 0xc4, 0xa7, 0x7e, 0x3d, 0x64, 0x5d, 0x19, 0x73,
            0x60, 0x81, 0x4f, 0xdc, 0x22, 0x2a, 0x90, 0x88, 0x46, 0xee, 0xb8, 0x14, 0xde, 0x5e, 0x0b, 0xdb,
            0xe0, 0x32, 0x3a, 0x0a, 0x49, 0x06, 0x24, 0x5c, 0xc2, 0xd3, 0xac, 0x62, 0x91, 0x95, 0xe4, 0x79,
            0xe7, 0xc8, 0x37, 0x6d, 0x8d, 0xd5, 0x4e, 0xa9, 0x6c, 0x56, 0xf4, 0xea, 0x65, 0x7a, 0xae, 0x08,
            0xba, 0x78, 0x25, 0x2e, 0x1c, 0xa6, 0xb4, 0xc6, 0xe8, 0xdd, 0x74, 0x1f, 0x4b, 0xbd, 0x8b, 0x8a,
            0x70, 0x3e, 0xb5, 0x66, 0x48, 0x03, 0xf6, 0x0e, 0x61, 0x35, 0x57, 0xb9, 0x86, 0xc1, 0x1d, 0x9e,
            0xe1, 0xf8, 0x98, 0x11, 0x69, 0xd9, 0x8e, 0x94, 0x9b, 0x1e, 0x87, 0xe9, 0xce, 0x55, 0x28, 0xdf,
            0x8c, 0xa1, 0x89, 0x0d, 0xbf, 0xe6, 0x42, 0x68, 0x41, 0x99, 0x2d, 0x0f, 0xb0, 0x54, 0xbb, 0x16
        };

        private static final int[] INVERSE_S_BOX = {
            0x52, 0x09, 0x6a, 0xd5, 0x30, 0x36, 0xa5, 0x38, 0xbf, 0x40, 0xa3, 0x9e, 0x81, 0xf3, 0xd7, 0xfb,
            0x7c, 0xe3, 0x39, 0x82, 0x9b, 0x2f, 0xff, 0x87, 0x34, 0x8e, 0x43, 0x44, 0xc4, 0xde, 0xe9, 0xcb,
            0x54, 0x7b, 0x94, 0x32, 0xa6, 0xc2, 0x23, 0x3d, 0xee, 0x4c, 0x95, 0x0b, 0x42, 0xfa, 0xc3, 0x4e,
            0x08, 0x2e, 0xa1, 0x66, 0x28, 0xd9, 0x24, 0xb2, 0x76, 0x5b, 0xa2, 0x49, 0x6d, 0x8b, 0xd1, 0x25,
            0x72, 0xf8, 0xf6, 0x64, 0x86, 0x68, 0x98, 0x16, 0xd4, 0xa4, 0x5c, 0xcc, 0x5d, 0x65, 0xb6, 0x92,
            0x6c, 0x70, 0x48, 0x50, 0xfd, 0xed, 0xb9, 0xda, 0x5e, 0x15, 0x46, 0x57, 0xa7, 0x8d, 0x9d, 0x84,
            0x90, 0xd8, 0xab, 0x00, 0x8c, 0xbc, 0xd3, 0x0a, 0xf7, 0xe4, 0x58, 0x05, 0xb8, 0xb3, 0x45, 0x06,
            0xd0, 0x2c, 0x1e, 0x8f, 0xca, 0x3f, 0x0f, 0x02, 0xc1, 0xaf, 0xbd, 0x03, 0x01, 0x13, 0x8a, 0x6b,
            0x3a, 0x91, 0x11, 0x41, 0x4f, 0x67, 0xdc, 0xea, 0x97, 0xf2, 0xcf, 0xce, 0xf0, 0xb4, 0xe6, 0x73,
            0x96, 0xac, 0x74, 0x22, 0xe7, 0xad, 0x35, 0x85, 0xe2, 0xf9, 0x37, 0xe8, 0x1c, 0x75, 0xdf, 0x6e,
            0x47, 0xf1, 0x1a, 0x71, 0x1d, 0x29, 0xc5, 0x89, 0x6f, 0xb7, 0x62, 0x0e, 0xaa, 0x18, 0xbe, 0x1b,
            0xfc, 0x56, 0x3e, 0x4b, 0xc6, 0xd2, 0x79, 0x20, 0x9a, 0xdb, 0xc0, 0xfe, 0x78, 0xcd, 0x5a, 0xf4,
            0x1f, 0xdd, 0xa8, 0x33, 0x88, 0x07, 0xc7, 0x31, 0xb1, 0x12, 0x10, 0x59, 0x27, 0x80, 0xec, 0x5f,
            0x60, 0x51, 0x7f, 0xa9, 0x19, 0xb5, 0x4a, 0x0d, 0x2d, 0xe5, 0x7a, 0x9f, 0x93, 0xc9, 0x9c, 0xef,
            0xa0, 0xe0, 0x3b, 0x4d, 0xae, 0x2a, 0xf5, 0xb0, 0xc8, 0xeb, 0xbb, 0x3c, 0x83, 0x53, 0x99, 0x61,
            0x17, 0x2b, 0x04, 0x7e, 0xba, 0x77, 0xd6, 0x26, 0xe1, 0x69, 0x14, 0x63, 0x55, 0x21, 0x0c, 0x7d
        };

        private final int[] schedule = new int[SCHEDULE_WORDS];

        void expand(long first, long last) {
            schedule[0] = highInt(first);
            schedule[1] = (int) first;
            schedule[2] = highInt(last);
            schedule[3] = (int) last;
            int roundConstant = 1;
            for (int i = KEY_WORDS; i < SCHEDULE_WORDS; i++) {
                int word = schedule[i - 1];
                if (i % KEY_WORDS == 0) {
                    int turned = turn(word, 8);
                    word = substitute(S_BOX, turned, turned, turned, turned) ^ roundConstant << 24;
                    roundConstant = doubleEach(roundConstant);
                }
                schedule[i] = schedule[i - KEY_WORDS] ^ word;
            }
        }

        void encipher(long[] row, int at) {
            int a = highInt(row[at]) ^ schedule[0];
            int b = (int) row[at] ^ schedule[1];
            int c = highInt(row[at + 1]) ^ schedule[2];
            int d = (int) row[at + 1] ^ schedule[3];
            for (int round = 1; round <= LAST_ROUND; round++) {
                // The order of the columns shifts row r by r places to the left.
                int e = substitute(S_BOX, a, b, c, d);
                int f = substitute(S_BOX, b, c, d, a);
                int g = substitute(S_BOX, c, d, a, b);
                int h = substitute(S_BOX, d, a, b, c);
                boolean mixes = round < LAST_ROUND;
                int k = KEY_WORDS * round;
                a = (mixes ? mix(e) : e) ^ schedule[k];
                b = (mixes ? mix(f) : f) ^ schedule[k + 1];
                c = (mixes ? mix(g) : g) ^ schedule[k + 2];
                d = (mixes ? mix(h) : h) ^ schedule[k + 3];
            }
            row[at] = join(a, b);
            row[at + 1] = join(c, d);
        }

        void decipher(long[] row, int at) {
            int last = KEY_WORDS * LAST_ROUND;
            int a = highInt(row[at]) ^ schedule[last];
            int b = (int) row[at] ^ schedule[last + 1];
            int c = highInt(row[at + 1]) ^ schedule[last + 2];
            int d = (int) row[at + 1] ^ schedule[last + 3];
            for (int round = LAST_ROUND - 1; round >= 0; round--) {
                // The order of the columns shifts row r by r places to the right.
                int k = KEY_WORDS * round;
                int e = substitute(INVERSE_S_BOX, a, d, c, b) ^ schedule[k];
                int f = substitute(INVERSE_S_BOX, b, a, d, c) ^ schedule[k + 1];
                int g = substitute(INVERSE_S_BOX, c, b, a, d) ^ schedule[k + 2];
                int h = substitute(INVERSE_S_BOX, d, c, b, a) ^ schedule[k + 3];
                boolean mixes = round > 0;
                a = mixes ? unmix(e) : e;
                b = mixes ? unmix(f) : f;
                c = mixes ? unmix(g) : g;
                d = mixes ? unmix(h) : h;
            }
            row[at] = join(a, b);
            row[at + 1] = join(c, d);
        }

        private static int substitute(int[] box, int row0, int row1, int row2, int row3) {
            return box[row0 >>> 24] << 24
                | box[row1 >>> 16 & 0xff] << 16
                | box[row2 >>> 8 & 0xff] << 8
                | box[row3 & 0xff];
        }

        private static int mix(int column) {
            int twice = doubleEach(column);
            return twice ^ turn(twice ^ column, 8) ^ turn(column, 16) ^ turn(column, 24);
        }

        // The inverse's polynomial is mix's own times 4x^2 + 5, which spares the
        // products by 9, 11, 13 and 14.
        private static int unmix(int column) {
            int fourfold = doubleEach(doubleEach(column ^ turn(column, 16)));
            return mix(column ^ fourfold);
        }

        // Four bytes at once, each in GF(2^8) by itself.
        private static int doubleEach(int bytes) {
            return (bytes & 0x7f7f7f7f) << 1 ^ (bytes >>> 7 & 0x01010101) * 0x1b;
        }

        private static int turn(int word, int bits) {
            return word << bits | word >>> 32 - bits;
        }

        private static int highInt(long w) {
            return (int) (w >>> 32);
        }

        private static long join(int high, int low) {
            return (long) high << 32 | low & 0xffffffffL;
        }
    }
}
