/** Numbers that look drawn by chance but are the same in every run (the SplitMix64 steps). */
final class Numbers {
    private long state;

    Numbers(long start) {
        state = start;
    }

    long next() {
        state += 0x9e3779b97f4a7c15L;
        long z = (state ^ state >>> 30) * 0xbf58476d1ce4e5b9L;
        z = (z ^ z >>> 27) * 0x94d049bb133111ebL;
        return z ^ z >>> 31;
    }

    int below(int bound) {
        return (int) Long.remainderUnsigned(next(), bound);
    }

    boolean coin() {
        return (next() & 1) == 1;
    }
}
