/** Calls that must be refused, after which every other call answers what it would have answered before. */
final class Refusals {
    interface Call {
        void on(SectorSeal seal);
    }

    private final Checks checks;
    private final Class<? extends RuntimeException> due;

    Refusals(Checks checks, Class<? extends RuntimeException> due) {
        this.checks = checks;
        this.due = due;
    }

    void due(String name, Call call) {
        due(name + " on a new object", call, new Pair(checks));
        due(name + " on a filled object", call, Pair.filled(checks, 11L));
        due(name + " on a sealed object", call, Pair.sealed(checks, 12L));
    }

    private void due(String name, Call call, Pair pair) {
        checks.dueThrows(name, () -> call.on(pair.seal), due);
        pair.everyAnswer(name + ", refused: ");
        checks.dueThrows(name + ", once more", () -> call.on(pair.seal), due);
        pair.everyAnswer(name + ", refused once more: ");
    }
}
