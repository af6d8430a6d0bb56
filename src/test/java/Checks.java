/** Counts the answers of one test class that are not as due. */
final class Checks {
    interface Call {
        void run();
    }

    private int made = 0;
    private int wrong = 0;

    void due(String call, Object got, Object want) {
        made++;
        if (!got.equals(want)) {
            wrong++;
            System.out.println(call + " answered " + got + ", due is " + want);
        }
    }

    void dueLong(String call, long got, long want) {
        due(call, Long.toHexString(got), Long.toHexString(want));
    }

    void dueSector(String call, SectorSeal seal, long[] want) {
        for (int i = 0; i < want.length; i++) {
            dueLong("get(" + i + ") after " + call, seal.get(i), want[i]);
        }
    }

    void dueThrows(String name, Call call, Class<? extends RuntimeException> want) {
        due(name + " throws", thrown(call), want.getName());
    }

    // The class itself, not one below it: an array's own exception would be a call that throws by itself.
    static String thrown(Call call) {
        try {
            call.run();
        } catch (RuntimeException e) {
            return e.getClass().getName();
        }
        return "nothing";
    }

    void end() {
        System.out.println("  " + made + " answers looked at, " + wrong + " not as due");
        if (made == 0 || wrong != 0) {
            System.exit(1);
        }
    }
}
