/** An object and the reference, given the same calls; their answers are looked at. */
final class Pair {
    final SectorSeal seal = new SectorSeal();
    final Reference reference = new Reference();
    private final Checks checks;

    Pair(Checks checks) {
        this.checks = checks;
    }

    static Pair filled(Checks checks, long start) {
        Pair pair = new Pair(checks);
        Numbers numbers = new Numbers(start);
        pair.key(numbers);
        for (int i = 0; i < 16; i++) {
            pair.put("filling: ", i, numbers.next());
        }
        return pair;
    }

    static Pair sealed(Checks checks, long start) {
        Pair pair = filled(checks, start);
        pair.sector("sealing: ", 9, true);
        return pair;
    }

    void key(Numbers numbers) {
        key(numbers.next(), numbers.next(), numbers.next(), numbers.next());
    }

    void key(long a, long b, long c, long d) {
        seal.key(a, b, c, d);
        reference.key(a, b, c, d);
    }

    void put(String where, int i, long w) {
        checks.dueLong(where + "put(" + i + ", " + w + ")", seal.put(i, w), reference.put(i, w));
    }

    void get(String where, int i) {
        checks.dueLong(where + "get(" + i + ")", seal.get(i), reference.longs[i]);
    }

    void sector(String where, int s, boolean seals) {
        String call = where + "sector(" + s + ", " + seals + ")";
        checks.dueLong(call, seal.sector(s, seals), reference.sector(s, seals));
    }

    void block(String where, int i, boolean deciphers, boolean second) {
        String call = where + "block(" + i + ", " + deciphers + ", " + second + ")";
        checks.dueLong(call, seal.block(i, deciphers, second), reference.block(i, deciphers, second));
    }

    void sum(String where) {
        checks.dueLong(where + "sum()", seal.sum(), reference.sum());
    }

    /** Calls of every kind, under both halves of the key and in both directions. */
    void everyAnswer(String where) {
        sameSector(where);
        sum(where);
        block(where, 0, false, false);
        block(where, 3, true, false);
        block(where, 5, false, true);
        block(where, 7, true, true);
        sector(where, 1, true);
        sector(where, 2, false);
        for (int i = 0; i < 16; i++) {
            put(where, i, ~reference.longs[i]);
        }
        sameSector(where);
    }

    void sameSector(String where) {
        checks.dueSector(where, seal, reference.longs);
    }
}
