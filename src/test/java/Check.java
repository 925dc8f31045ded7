/** What the tests share: it prints every answer that is not as due, and ends with 1 if there was one. */
final class Check {
    private static int wrong = 0;

    private Check() {
    }

    static void due(String call, long got, long want) {
        if (got != want) {
            fault(call + " answered " + got + ", due is " + want);
        }
    }

    static void due(String call, double got, double want) {
        if (Double.compare(got, want) != 0) {
            fault(call + " answered " + got + ", due is " + want);
        }
    }

    static void due(String call, boolean got, boolean want) {
        if (got != want) {
            fault(call + " answered " + got + ", due is " + want);
        }
    }

    static void due(String call, String got, String want) {
        if (!got.equals(want)) {
            fault(call + " answered " + got + ", due is " + want);
        }
    }

    /** The call throws just this class (no class below it: those the machine throws), and nothing changes. */
    static void refuses(AvalancheDesk desk, String name, Class<? extends RuntimeException> kind, Runnable call) {
        String before = View.of(desk);
        String thrown = "nothing";
        try {
            call.run();
        } catch (RuntimeException e) {
            thrown = e.getClass().getName();
        }
        if (!thrown.equals(kind.getName())) {
            fault(name + " threw " + thrown + ", due is " + kind.getName());
        }
        if (!View.of(desk).equals(before)) {
            fault(name + " changed the desk though it was refused");
        }
    }

    static void fault(String text) {
        wrong++;
        System.out.println(text);
    }

    static void finish() {
        System.out.println(wrong == 0 ? "all answers are as due" : wrong + " answers are not as due");
        if (wrong != 0) {
            System.exit(1);
        }
    }
}
