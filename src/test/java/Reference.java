import java.math.BigInteger;
import java.nio.ByteBuffer;
import java.security.GeneralSecurityException;
import javax.crypto.Cipher;
import javax.crypto.spec.SecretKeySpec;

/** The document once more, by the Java library's AES and by big numbers for the tweaks. */
final class Reference {
    private static final BigInteger ALL_BUT_THE_CARRY = BigInteger.ONE.shiftLeft(128).subtract(BigInteger.ONE);
    private static final BigInteger REDUCTION = BigInteger.valueOf(0x87);

    private final long[] key = new long[4];
    final long[] longs = new long[16];

    void key(long a, long b, long c, long d) {
        key[0] = a;
        key[1] = b;
        key[2] = c;
        key[3] = d;
    }

    long put(int i, long w) {
        long before = longs[i];
        longs[i] = w;
        return before;
    }

    long sector(int s, boolean seals) {
        BigInteger tweak = firstTweak(s);
        for (int i = 0; i < 8; i++) {
            byte[] mask = reversed(sixteenBytes(tweak));
            byte[] sealed = xor(aes(xor(blockBytes(i), mask), !seals, false), mask);
            setBlock(i, sealed);
            tweak = doubled(tweak);
        }
        return longs[0];
    }

    long block(int i, boolean deciphers, boolean second) {
        setBlock(i, aes(blockBytes(i), deciphers, second));
        return longs[2 * i];
    }

    long sum() {
        long all = 0;
        for (long w : longs) {
            all ^= w;
        }
        return all;
    }

    /** The tweak of block i, its lowest bit being bit 0. */
    BigInteger tweak(int s, int i) {
        BigInteger tweak = firstTweak(s);
        for (int step = 0; step < i; step++) {
            tweak = doubled(tweak);
        }
        return tweak;
    }

    private BigInteger firstTweak(int s) {
        byte[] start = new byte[16];
        ByteBuffer.wrap(start).putInt(Integer.reverseBytes(s));
        return new BigInteger(1, reversed(aes(start, false, true)));
    }

    private byte[] aes(byte[] block, boolean deciphers, boolean second) {
        int at = second ? 2 : 0;
        byte[] half = ByteBuffer.allocate(16).putLong(key[at]).putLong(key[at + 1]).array();
        try {
            Cipher cipher = Cipher.getInstance("AES/ECB/NoPadding");
            cipher.init(deciphers ? Cipher.DECRYPT_MODE : Cipher.ENCRYPT_MODE, new SecretKeySpec(half, "AES"));
            return cipher.doFinal(block);
        } catch (GeneralSecurityException e) {
            throw new IllegalStateException(e);
        }
    }

    private byte[] blockBytes(int i) {
        return ByteBuffer.allocate(16).putLong(longs[2 * i]).putLong(longs[2 * i + 1]).array();
    }

    private void setBlock(int i, byte[] bytes) {
        ByteBuffer buffer = ByteBuffer.wrap(bytes);
        longs[2 * i] = buffer.getLong();
        longs[2 * i + 1] = buffer.getLong();
    }

    private static BigInteger doubled(BigInteger tweak) {
        BigInteger twice = tweak.shiftLeft(1).and(ALL_BUT_THE_CARRY);
        return tweak.testBit(127) ? twice.xor(REDUCTION) : twice;
    }

    private static byte[] sixteenBytes(BigInteger number) {
        return ByteBuffer.allocate(16).putLong(number.shiftRight(64).longValue()).putLong(number.longValue()).array();
    }

    private static byte[] reversed(byte[] bytes) {
        byte[] turned = new byte[bytes.length];
        for (int i = 0; i < bytes.length; i++) {
            turned[i] = bytes[bytes.length - 1 - i];
        }
        return turned;
    }

    private static byte[] xor(byte[] a, byte[] b) {
        byte[] both = new byte[a.length];
        for (int i = 0; i < a.length; i++) {
            both[i] = (byte) (a[i] ^ b[i]);
        }
        return both;
    }
}
