/** What the tests share: answers that are due, exceptions that are due, and the end of a test. */
final class Checks {
    private static int wrong = 0;

    private Checks() {
    }

    static void due(String call, long got, long want) {
        if (got != want) {
            tell(call + " answered " + got + ", due is " + want);
        }
    }

    static void dueDouble(String call, double got, double want) {
        if (got != want) {
            tell(call + " answered " + got + ", due is " + want);
        }
    }

    /** The call throws just this exception, and changes nothing that the digest tells of. */
    static void dueThrow(IceLanes x, String call, Class<? extends RuntimeException> want, Runnable run) {
        long before = x.digest();
        String got = "nothing";
        try {
            run.run();
        } catch (RuntimeException e) {
            got = e.getClass().getName();
        }
        if (!got.equals(want.getName())) {
            tell(call + " threw " + got + ", due is " + want.getName());
        }
        if (x.digest() != before) {
            tell(call + " threw, but changed something");
        }
    }

    static void dueIndex(IceLanes x, String call, Runnable run) {
        dueThrow(x, call, IndexOutOfBoundsException.class, run);
    }

    static void dueArgument(IceLanes x, String call, Runnable run) {
        dueThrow(x, call, IllegalArgumentException.class, run);
    }

    static void dueState(IceLanes x, String call, Runnable run) {
        dueThrow(x, call, IllegalStateException.class, run);
    }

    static void tell(String text) {
        wrong++;
        System.out.println(text);
    }

    /** A river on which neither frost nor warmth changes the ice. */
    static IceLanes stillRiver() {
        IceLanes x = new IceLanes();
        for (int day = 0; day < 14; day++) {
            x.setWarm(day, 0);
        }
        return x;
    }

    static void setSection(IceLanes x, int section, int left, int middle, int right) {
        x.setIce(section, 0, left);
        x.setIce(section, 1, middle);
        x.setIce(section, 2, right);
    }

    static void end() {
        System.out.println(wrong == 0 ? "all answers are as due" : wrong + " answers are not as due");
        if (wrong != 0) {
            System.exit(1);
        }
    }
}
