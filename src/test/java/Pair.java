/** An object and the reference, given the same calls; their answers are looked at. */
final class Pair {
    final SectorSeal seal = new SectorSeal();
    final Reference reference = new Reference();
    private final Checks checks;

    Pair(Checks checks) {
        this.checks = checks;
    }

    static Pair filled(Checks checks, long start) {
        Pair pair = new Pair(checks);
        Numbers numbers = new Numbers(start);
        pair.key(numbers);
        for (int i = 0; i < 16; i++) {
            pair.put("filling: ", i, numbers.next());
        }
        return pair;
    }

    void key(Numbers numbers) {
        key(numbers.next(), numbers.next(), numbers.next(), numbers.next());
    }

    void key(long a, long b, long c, long d) {
        seal.key(a, b, c, d);
        reference.key(a, b, c, d);
    }

    void put(String where, int i, long w) {
        checks.dueLong(where + "put(" + i + ", " + w + ")", seal.put(i, w), reference.put(i, w));
    }

    void sector(String where, int s, boolean seals) {
        String call = where + "sector(" + s + ", " + seals + ")";
        checks.dueLong(call, seal.sector(s, seals), reference.sector(s, seals));
    }

    void block(String where, int i, boolean deciphers, boolean second) {
        String call = where + "block(" + i + ", " + deciphers + ", " + second + ")";
        checks.dueLong(call, seal.block(i, deciphers, second), reference.block(i, deciphers, second));
    }

    void sum(String where) {
        checks.dueLong(where + "sum()", seal.sum(), reference.sum());
    }

    void sameSector(String where) {
        checks.dueSector(where, seal, reference.longs);
    }
}
