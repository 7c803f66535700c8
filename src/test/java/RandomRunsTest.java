import java.util.ArrayList;
import java.util.List;

/**
 * Long runs of calls, drawn by a fixed rule, checked without numbers written by hand: a call with wrong
 * arguments throws what is due and changes nothing, and what is told ahead comes true when a second
 * object, on which the same calls were made, is let run. Each check stands on an object of its own, since
 * no object is promised to be right for more than 512 calls.
 */
public final class RandomRunsTest {
    private static final int RUNS = 400;
    private static final int CALLS = 60;

    private final List<int[]> calls = new ArrayList<>();
    /** The one that is checked now; the same calls were made on each before. */
    private IceLanes x = new IceLanes();
    private long seed;

    private RandomRunsTest(int run) {
        seed = 7919L * run + 1;
    }

    public static void main(String[] args) {
        for (int run = 0; run < RUNS; run++) {
            new RandomRunsTest(run).run(run);
        }
        Checks.end();
    }

    private void run(int run) {
        for (int i = 0; i < CALLS; i++) {
            x = again();
            int[] call = drawn();
            String want = exceptionDue(call);
            long before = x.digest();
            String got = answered(x, call);
            if (!got.equals(want)) {
                Checks.tell("run " + run + ": " + java.util.Arrays.toString(call) + " threw " + got + ", due " + want);
            }
            if (!want.isEmpty()) {
                Checks.due("run " + run + ": the digest behind an exception", x.digest(), before);
            }
            calls.add(call);
        }
        bearsIsTheBestWay();
        thawComesTrue();
        int couriers = again().count(1);
        for (int courier = 0; courier < couriers; courier++) {
            arrivesComesTrue(courier);
            bestComesTrue(courier);
        }
    }

    private int draw(int bound) {
        seed = seed * 6364136223846793005L + 1442695040888963407L;
        return (int) Math.floorMod(seed >>> 33, (long) bound);
    }

    /** Mostly a right argument of 0 to last, sometimes one beside or far off. */
    private int drawUpTo(int last) {
        int chance = draw(60);
        if (chance == 0) {
            return -1;
        }
        if (chance == 1) {
            return last + 1;
        }
        if (chance == 2) {
            return draw(2) == 0 ? Integer.MAX_VALUE : Integer.MIN_VALUE;
        }
        return draw(last + 1);
    }

    private int[] drawn() {
        switch (draw(12)) {
            case 0:
                return new int[] {0, drawUpTo(13), drawUpTo(18) - 9};
            case 1:
            case 2:
                return new int[] {1, drawUpTo(11), drawUpTo(2), drawUpTo(60)};
            case 3:
                return new int[] {2, drawUpTo(11)};
            case 4:
            case 5:
                return new int[] {3, drawUpTo(11), drawUpTo(2), drawUpTo(draw(40) + 1), drawUpTo(20), draw(2)};
            case 6:
            case 7:
                return new int[] {4, drawUpTo(7), drawUpTo(11)};
            case 8:
                return new int[] {5, drawUpTo(7), drawUpTo(40) - 20};
            case 9:
                return new int[] {6, drawUpTo(500), drawUpTo(100)};
            default:
                return new int[] {7, drawUpTo(draw(10) == 0 ? 200 : 14)};
        }
    }

    /** Makes the call; answers the name of what it threw, empty if nothing. */
    private static String answered(IceLanes on, int[] c) {
        try {
            switch (c[0]) {
                case 0 -> on.setWarm(c[1], c[2]);
                case 1 -> on.setIce(c[1], c[2], c[3]);
                case 2 -> on.build(c[1]);
                case 3 -> on.come(c[1], c[2], c[3], c[4], c[5] == 1);
                case 4 -> on.send(c[1], c[2]);
                case 5 -> on.load(c[1], c[2]);
                case 6 -> on.wager(c[1], c[2]);
                default -> on.pass(c[1]);
            }
        } catch (RuntimeException e) {
            return e.getClass().getSimpleName();
        }
        return "";
    }

    private static boolean within(int a, int least, int most) {
        return a >= least && a <= most;
    }

    private String exceptionDue(int[] c) {
        boolean index = false;
        boolean argument = false;
        boolean state = false;
        boolean hasCourier = c.length > 1 && within(c[1], 0, x.count(1) - 1);
        switch (c[0]) {
            case 0 -> {
                index = !within(c[1], 0, 13);
                argument = !within(c[2], -9, 9);
            }
            case 1 -> {
                index = !within(c[1], 0, 11) || !within(c[2], 0, 2);
                argument = !within(c[3], 0, 60);
            }
            case 2 -> index = !within(c[1], 0, 11);
            case 3 -> {
                index = !within(c[1], 0, 11) || !within(c[2], 0, 2);
                argument = !within(c[3], 1, 40) || !within(c[4], 0, 20);
                state = x.count(1) == 8 || !index && !argument && x.place(c[1], c[2], 2) < c[3] + c[4];
            }
            case 4 -> {
                index = !hasCourier || !within(c[2], 0, 11);
                state = hasCourier && x.courier(c[1], 6) == 3;
            }
            case 5 -> {
                index = !hasCourier;
                argument = c[2] == 0 || !within(c[2], -20, 20);
                state = hasCourier && !argument && !canCarry(c[1], x.courier(c[1], 1) + c[2]);
            }
            case 6 -> {
                argument = !within(c[1], 0, 500) || !within(c[2], 1, 100);
                state = x.count(8) == 12 || x.count(10) != -1;
            }
            default -> argument = !within(c[1], 1, 200);
        }
        return index ? "IndexOutOfBoundsException" : argument ? "IllegalArgumentException"
            : state ? "IllegalStateException" : "";
    }

    private boolean canCarry(int courier, int letters) {
        return x.courier(courier, 6) != 3 && within(letters, 0, 20)
            && x.place(x.courier(courier, 3), x.courier(courier, 4), 2) >= x.courier(courier, 0) + letters;
    }

    private IceLanes again() {
        IceLanes y = new IceLanes();
        for (int[] call : calls) {
            answered(y, call);
        }
        return y;
    }

    private void bearsIsTheBestWay() {
        x = again();
        int[] borne = new int[36];
        for (int place = 0; place < 36; place++) {
            borne[place] = x.place(place / 3, place % 3, 2);
        }
        int from = draw(12);
        int to = draw(12);
        int best = 0;
        for (int lane = 0; lane < 3; lane++) {
            best = Math.max(best, bestWay(borne, from, lane, to));
        }
        Checks.due("bears(" + from + ", " + to + ")", x.bears(from, to), best);
    }

    private static int bestWay(int[] borne, int section, int lane, int to) {
        int here = borne[3 * section + lane];
        if (section == to) {
            return here;
        }
        int best = 0;
        for (int next = Math.max(0, lane - 1); next <= Math.min(2, lane + 1); next++) {
            best = Math.max(best, bestWay(borne, section < to ? section + 1 : section - 1, next, to));
        }
        return Math.min(here, best);
    }

    private void thawComesTrue() {
        x = again();
        long before = x.digest();
        int told = x.thaw();
        Checks.due("the digest behind thaw()", x.digest(), before);
        Checks.passLong(x, 720);
        Checks.due("thaw()", told, x.count(10));
    }

    private static int hoursOf(IceLanes y, int courier) {
        if (y.courier(courier, 6) == 3) {
            return -1;
        }
        if (y.courier(courier, 3) == y.courier(courier, 5)) {
            return 0;
        }
        for (int hours = 1; hours <= 150; hours++) {
            y.pass(1);
            if (y.courier(courier, 6) == 2) {
                return hours;
            }
        }
        return -1;
    }

    private void arrivesComesTrue(int courier) {
        x = again();
        long before = x.digest();
        Checks.due("arrives(" + courier + ")", x.arrives(courier), hoursOf(again(), courier));
        Checks.due("the digest behind arrives(" + courier + ")", x.digest(), before);
    }

    private void bestComesTrue(int courier) {
        x = again();
        long before = x.digest();
        int best = x.best(courier);
        Checks.due("the digest behind best(" + courier + ")", x.digest(), before);
        for (int letters = 0; letters <= 20; letters++) {
            IceLanes y = again();
            if (!carriesInstead(y, courier, letters)) {
                continue;
            }
            boolean arrives = hoursOf(y, courier) >= 0;
            if (letters == best && !arrives || letters > best && arrives) {
                Checks.tell("best(" + courier + ") answered " + best + ", but " + letters + " arrives: " + arrives);
            }
        }
    }

    /** Loads a courier with these letters, on ice of 60 for as long as that takes; not if even this is too thin. */
    private static boolean carriesInstead(IceLanes y, int courier, int letters) {
        int more = letters - y.courier(courier, 1);
        if (more == 0) {
            return true;
        }
        int section = y.courier(courier, 3);
        int lane = y.courier(courier, 4);
        int ice = y.setIce(section, lane, 60);
        boolean canLoad = y.courier(courier, 6) != 3 && y.place(section, lane, 2) >= y.courier(courier, 0) + letters;
        if (canLoad) {
            y.load(courier, more);
        }
        y.setIce(section, lane, ice);
        return canLoad;
    }
}
