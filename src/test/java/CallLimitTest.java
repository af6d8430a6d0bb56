/** "An object is used for at most 512 calls after it has been made": the 512th answers as the first does. */
public final class CallLimitTest {
    private static final Checks CHECKS = new Checks();
    private static final int CALLS = 512;
    private static final int KINDS = 6;
    private static final int REFUSED_KINDS = 4;

    public static void main(String[] args) {
        everyKindMayBeTheLastCall();
        everyKindMayBeAllCalls();
        everyKindMayComeAfterRefusedCallsAlone();
        theLastCallMayBeRefused();
        CHECKS.end();
    }

    private static void everyKindMayBeTheLastCall() {
        for (int kind = 0; kind < KINDS; kind++) {
            Pair pair = new Pair(CHECKS);
            for (int call = 1; call < CALLS; call++) {
                make(pair, call % KINDS, call);
            }
            make(pair, kind, CALLS);
        }
    }

    private static void everyKindMayBeAllCalls() {
        for (int kind = 0; kind < KINDS; kind++) {
            Pair pair = new Pair(CHECKS);
            for (int call = 1; call <= CALLS; call++) {
                make(pair, kind, call);
            }
        }
    }

    private static void everyKindMayComeAfterRefusedCallsAlone() {
        for (int kind = 0; kind < KINDS; kind++) {
            Pair pair = new Pair(CHECKS);
            for (int call = 1; call < CALLS; call++) {
                refuse(pair.seal, call % REFUSED_KINDS, call);
            }
            make(pair, kind, CALLS);
        }
    }

    private static void theLastCallMayBeRefused() {
        for (int kind = 0; kind < REFUSED_KINDS; kind++) {
            Pair pair = new Pair(CHECKS);
            for (int call = 1; call < CALLS; call++) {
                make(pair, call % KINDS, call);
            }
            refuse(pair.seal, kind, CALLS);
        }
    }

    private static void make(Pair pair, int kind, int call) {
        String where = "call " + call + ": ";
        int i = call % 16;
        switch (kind) {
            case 0 -> pair.key(call, -call, ~call, 3L * call);
            case 1 -> pair.put(where, i, call * 0x0123456789abcdefL);
            case 2 -> pair.get(where, i);
            case 3 -> pair.sector(where, call, call % 4 == 3);
            case 4 -> pair.block(where, i / 2, call % 3 == 0, call % 5 == 0);
            default -> pair.sum(where);
        }
    }

    private static void refuse(SectorSeal seal, int kind, int call) {
        String name = "call " + call + ", refused kind " + kind;
        switch (kind) {
            case 0 -> CHECKS.dueThrows(name, () -> seal.put(16, call), IndexOutOfBoundsException.class);
            case 1 -> CHECKS.dueThrows(name, () -> seal.get(-1), IndexOutOfBoundsException.class);
            case 2 -> CHECKS.dueThrows(name, () -> seal.sector(-call, true), IllegalArgumentException.class);
            default -> CHECKS.dueThrows(name, () -> seal.block(8, true, true), IndexOutOfBoundsException.class);
        }
    }
}
