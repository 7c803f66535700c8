/** What the tests share: answers that are due, exceptions that are due, and the end of a test. */
final class Checks {
    private static int wrong = 0;

    private Checks() {
    }

    static void due(String call, long got, long want) {
        if (got != want) {
            tell(call + " answered " + got + ", due is " + want);
        }
    }

    static void dueDouble(String call, double got, double want) {
        if (got != want) {
            tell(call + " answered " + got + ", due is " + want);
        }
    }

    /** The call throws just this exception, and changes nothing that the digest tells of. */
    static void dueThrow(IceLanes x, String call, Class<? extends RuntimeException> want, Runnable run) {
        long before = x.digest();
        String got = "nothing";
        try {
            run.run();
        } catch (RuntimeException e) {
            got = e.getClass().getName();
        }
        if (!got.equals(want.getName())) {
            tell(call + " threw " + got + ", due is " + want.getName());
        }
        if (x.digest() != before) {
            tell(call + " threw, but changed something");
        }
    }

    /** Far below the least, one below it, one above the most, and far above it. */
    static int[] outside(int least, int most) {
        return new int[] {Integer.MIN_VALUE, least - 1, most + 1, Integer.MAX_VALUE};
    }

    static void dueIndex(IceLanes x, String call, Runnable run) {
        dueThrow(x, call, IndexOutOfBoundsException.class, run);
    }

    static void dueArgument(IceLanes x, String call, Runnable run) {
        dueThrow(x, call, IllegalArgumentException.class, run);
    }

    static void dueState(IceLanes x, String call, Runnable run) {
        dueThrow(x, call, IllegalStateException.class, run);
    }

    static void tell(String text) {
        wrong++;
        System.out.println(text);
    }

    /** A river on which neither frost nor warmth changes the ice. */
    static IceLanes stillRiver() {
        IceLanes x = new IceLanes();
        for (int day = 0; day < 14; day++) {
            x.setWarm(day, 0);
        }
        return x;
    }

    /** With nothing on it, with something of everything, and with as much as there can be. */
    static IceLanes[] rivers() {
        return new IceLanes[] {new IceLanes(), busyRiver(), fullRiver()};
    }

    /** Has four couriers: number 0, a skater, goes, 1 has arrived, 2 broke in at its goal, and 3 rests. */
    static IceLanes busyRiver() {
        IceLanes x = new IceLanes();
        x.setWarm(0, 3);
        x.setWarm(13, -4);
        x.setIce(7, 1, 44);
        x.build(2);
        x.build(9);
        x.come(0, 0, 5, 4, true);
        x.come(3, 1, 14, 3, false);
        x.come(5, 2, 20, 2, false);
        x.come(9, 0, 1, 0, false);
        x.send(0, 11);
        x.send(1, 4);
        x.send(2, 6);
        x.wager(3, 40);
        x.wager(500, 1);
        x.pass(3);
        return x;
    }

    /** Has a hut in each section, eight couriers who rest, and twelve wagers, and the thaw has come. */
    static IceLanes fullRiver() {
        IceLanes x = stillRiver();
        for (int section = 0; section < 12; section++) {
            x.build(section);
            x.wager(section, 7);
        }
        for (int courier = 0; courier < 8; courier++) {
            x.come(courier, 0, 1, courier, courier % 2 == 0);
        }
        setSection(x, 11, 0, 0, 0);
        x.pass(1);
        return x;
    }

    /**
     * A still river on which the place of section 1, lane 0 has so many cracks, 0 to 9, and no other one has any.
     * A sled of 30, number 0, made them, and has arrived at section 0, lane 0, where it makes none: the ice is 60.
     */
    static IceLanes crackedRiver(int cracks) {
        IceLanes x = stillRiver();
        x.setIce(0, 0, 60);
        x.setIce(1, 0, 59);
        x.come(0, 0, 30, 0, false);
        for (int i = 0; i < cracks; i++) {
            x.send(0, 1);
            x.pass(2);
            x.send(0, 0);
            x.pass(2);
        }
        due("the cracks of a cracked place", x.place(1, 0, 1), cracks);
        due("all cracks of a cracked river", x.count(5), cracks);
        return x;
    }

    /** Lets hours go by in few calls: an object is promised to be right for 512 of them. */
    static void passLong(IceLanes x, int hours) {
        int left = hours;
        while (left > 0) {
            int now = Math.min(200, left);
            x.pass(now);
            left -= now;
        }
    }

    static void setSection(IceLanes x, int section, int left, int middle, int right) {
        x.setIce(section, 0, left);
        x.setIce(section, 1, middle);
        x.setIce(section, 2, right);
    }

    static void end() {
        System.out.println(wrong == 0 ? "all answers are as due" : wrong + " answers are not as due");
        if (wrong != 0) {
            System.exit(1);
        }
    }
}
