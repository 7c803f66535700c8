/** Promises 14 to 19: bears, arrives, best, thaw, mean, digest. */
public final class WouldBeTest {
    public static void main(String[] args) {
        promise14Bears();
        promise14BearsAlongLanes();
        promise15Arrives();
        promise15ArrivesOfOnesWhoBreakIn();
        promise15ArrivesWithLettersAndHuts();
        promise15ArrivesAtMost150();
        promise16Best();
        promise16BestOfOthers();
        promise17Thaw();
        promise17ThawInAtMost720();
        promise18Mean();
        promise19Digest();
        promise19DigestOfANewOne();
        Checks.end();
    }

    private static void promise14Bears() {
        IceLanes x = new IceLanes();
        Checks.due("bears(0, 11)", x.bears(0, 11), 30);
        Checks.setSection(x, 4, 9, 11, 10);
        Checks.due("bears(4, 4)", x.bears(4, 4), 11);
        Checks.due("bears(4, 6)", x.bears(4, 6), 11);
        Checks.due("bears(2, 4)", x.bears(2, 4), 11);
        Checks.due("bears(11, 0)", x.bears(11, 0), 11);
        Checks.due("bears(5, 11)", x.bears(5, 11), 30);
        Checks.due("bears(3, 0)", x.bears(3, 0), 30);
        Checks.dueIndex(x, "bears(-1, 0)", () -> x.bears(-1, 0));
        Checks.dueIndex(x, "bears(12, 0)", () -> x.bears(12, 0));
        Checks.dueIndex(x, "bears(0, -1)", () -> x.bears(0, -1));
        Checks.dueIndex(x, "bears(0, 12)", () -> x.bears(0, 12));
        Checks.setSection(x, 4, 0, 0, 0);
        Checks.due("bears(0, 11) over open water", x.bears(0, 11), 0);
    }

    private static void promise14BearsAlongLanes() {
        IceLanes x = new IceLanes();
        Checks.setSection(x, 1, 50, 4, 5);
        Checks.setSection(x, 2, 3, 2, 50);
        Checks.due("bears(1, 2), two lanes beside", x.bears(1, 2), 5);
        Checks.due("bears(2, 1), two lanes beside", x.bears(2, 1), 5);
        Checks.due("bears(0, 3)", x.bears(0, 3), 5);
        x.setIce(2, 1, 20);
        Checks.due("bears(1, 2), a lane beside", x.bears(1, 2), 20);
        x.setIce(1, 0, 19);
        Checks.due("bears(1, 2), from a weaker place", x.bears(1, 2), 19);
        x.setIce(1, 2, 25);
        Checks.due("bears(1, 2), along the last lane", x.bears(1, 2), 25);
        IceLanes y = Checks.stillRiver();
        Checks.setSection(y, 1, 30, 0, 0);
        y.come(0, 0, 20, 0, false);
        y.send(0, 1);
        y.pass(2);
        Checks.due("bears(0, 2) over a crack", y.bears(0, 2), 27);
        y.setIce(1, 0, 2);
        Checks.due("bears(1, 1) with cracks that take more", y.bears(1, 1), 0);
    }

    private static void promise15Arrives() {
        IceLanes x = Checks.stillRiver();
        Checks.dueIndex(x, "arrives(0) without couriers", () -> x.arrives(0));
        x.come(0, 0, 1, 0, false);
        x.come(0, 0, 1, 0, true);
        Checks.due("arrives(0) at the goal", x.arrives(0), 0);
        x.send(0, 5);
        x.send(1, 5);
        long before = x.digest();
        Checks.due("arrives(0)", x.arrives(0), 6);
        Checks.due("arrives(1)", x.arrives(1), 4);
        Checks.due("the digest behind arrives", x.digest(), before);
        x.pass(1);
        Checks.due("arrives(0) of one who goes", x.arrives(0), 5);
        x.pass(4);
        Checks.due("arrives(0) a section before", x.arrives(0), 1);
        x.pass(1);
        Checks.due("arrives(0) of one who has arrived", x.arrives(0), 0);
        Checks.dueIndex(x, "arrives(-1)", () -> x.arrives(-1));
        Checks.dueIndex(x, "arrives(2)", () -> x.arrives(2));
    }

    private static void promise15ArrivesOfOnesWhoBreakIn() {
        IceLanes x = Checks.stillRiver();
        x.come(0, 0, 28, 0, false);
        x.send(0, 1);
        Checks.due("arrives(0) of one who breaks in", x.arrives(0), -1);
        x.pass(2);
        Checks.due("one at the goal", x.courier(0, 3), x.courier(0, 5));
        Checks.due("arrives(0) of one who broke in at the goal", x.arrives(0), -1);
        x.setIce(1, 0, 60);
        Checks.due("arrives(0) of one who broke in, on thick ice", x.arrives(0), -1);
        IceLanes y = Checks.stillRiver();
        y.come(2, 0, 1, 0, true);
        y.come(0, 0, 28, 0, false);
        y.send(0, 0);
        y.send(1, 2);
        Checks.setSection(y, 1, 30, 0, 0);
        Checks.due("arrives(0) before one who breaks in", y.arrives(0), 2);
        y.pass(2);
        Checks.due("arrives(0) behind", y.arrives(0), 0);
        y.come(0, 0, 1, 0, true);
        y.send(2, 2);
        Checks.due("arrives(2) over the place of one who broke in", y.arrives(2), -1);
    }

    private static void promise15ArrivesWithLettersAndHuts() {
        IceLanes x = Checks.stillRiver();
        x.come(0, 0, 20, 8, false);
        x.send(0, 1);
        Checks.due("arrives(0) with 8 letters", x.arrives(0), -1);
        x.load(0, -1);
        Checks.due("arrives(0) with 7 letters", x.arrives(0), 2);
        IceLanes y = Checks.stillRiver();
        y.come(0, 0, 1, 0, false);
        y.send(0, 11);
        y.pass(12);
        y.send(0, 0);
        Checks.due("arrives(0) with a long rest", y.arrives(0), 1 + 10 + 10 + 1);
        y.build(1);
        Checks.due("arrives(0) with a rest at a hut", y.arrives(0), 1 + 10 + 2 + 1);
        y.pass(14);
        Checks.due("the section behind these hours", y.courier(0, 3), 0);
    }

    private static void promise15ArrivesAtMost150() {
        IceLanes x = Checks.stillRiver();
        x.setWarm(12, -9);
        Checks.setSection(x, 1, 0, 0, 0);
        x.come(0, 0, 1, 0, false);
        x.send(0, 6);
        Checks.due("arrives(0) behind 150 hours", x.arrives(0), 150);
        x.send(0, 7);
        Checks.due("arrives(0) behind 151 hours", x.arrives(0), -1);
        Checks.due("best(0) behind 151 hours", x.best(0), -1);
        x.pass(1);
        Checks.due("arrives(0) an hour later", x.arrives(0), 150);
        Checks.due("best(0) an hour later", x.best(0), 5);
    }

    private static void promise16Best() {
        IceLanes x = Checks.stillRiver();
        Checks.dueIndex(x, "best(0) without couriers", () -> x.best(0));
        x.come(0, 0, 20, 3, false);
        Checks.due("best(0) at the goal", x.best(0), 20);
        x.send(0, 1);
        long before = x.digest();
        Checks.due("best(0)", x.best(0), 7);
        Checks.due("the digest behind best", x.digest(), before);
        x.setIce(1, 1, 40);
        Checks.due("best(0) with thicker ice", x.best(0), 17);
        x.setIce(1, 1, 42);
        x.setIce(0, 0, 1);
        Checks.due("best(0) from a place that does not bear it", x.best(0), 19);
        x.setIce(1, 1, 43);
        Checks.due("best(0) of all letters", x.best(0), 20);
        Checks.setSection(x, 1, 22, 22, 60);
        Checks.due("best(0) of none", x.best(0), -1);
        Checks.setSection(x, 1, 22, 23, 60);
        Checks.due("best(0) of 0", x.best(0), 0);
        x.setIce(1, 1, 21);
        x.setIce(0, 0, 60);
        x.pass(2);
        Checks.due("one at a place that bore it no more", x.courier(0, 6), 1);
        x.load(0, -3);
        x.pass(1);
        Checks.due("one who broke in at the goal", x.courier(0, 6), 3);
        Checks.due("best(0) of one who broke in", x.best(0), -1);
        Checks.dueIndex(x, "best(-1)", () -> x.best(-1));
        Checks.dueIndex(x, "best(1)", () -> x.best(1));
    }

    private static void promise16BestOfOthers() {
        IceLanes x = Checks.stillRiver();
        x.come(0, 0, 18, 0, false);
        x.come(0, 0, 10, 0, false);
        x.send(0, 1);
        x.send(1, 1);
        Checks.setSection(x, 1, 30, 0, 0);
        Checks.due("best(0), who goes first", x.best(0), 9);
        Checks.due("best(1), on the crack of the other", x.best(1), 14);
        Checks.due("the letters of each", x.courier(0, 1) + x.courier(1, 1), 0);
    }

    private static void promise17Thaw() {
        IceLanes x = new IceLanes();
        Checks.due("thaw() of a new one", x.thaw(), -1);
        x.setWarm(5, 9);
        x.setWarm(6, 9);
        x.setWarm(7, 9);
        long before = x.digest();
        Checks.due("thaw() in warmth", x.thaw(), 7);
        Checks.due("the digest behind thaw", x.digest(), before);
        Checks.due("count(10) behind thaw", x.count(10), -1);
        x.pass(84);
        Checks.due("count(10) a day before", x.count(10), -1);
        Checks.due("thaw() a day before", x.thaw(), 7);
        x.pass(1);
        Checks.due("count(10) in the hour", x.count(10), 7);
        x.pass(200);
        Checks.due("thaw() when it has come", x.thaw(), 7);
        IceLanes z = Checks.stillRiver();
        Checks.setSection(z, 3, 0, 0, 0);
        Checks.due("thaw() of open water", z.thaw(), 0);
        z.setIce(3, 1, 1);
        Checks.due("thaw() when there is ice again", z.thaw(), -1);
        IceLanes y = Checks.stillRiver();
        y.come(0, 0, 20, 0, false);
        y.send(0, 1);
        Checks.setSection(y, 1, 22, 0, 0);
        Checks.due("thaw() by one who breaks in", y.thaw(), 0);
        y.pass(10);
        Checks.due("count(10) of that", y.count(10), 0);
    }

    private static void promise17ThawInAtMost720() {
        IceLanes x = Checks.stillRiver();
        x.setWarm(4, 3);
        Checks.due("thaw() in the 721st hour", x.thaw(), -1);
        x.pass(1);
        Checks.due("thaw() in the 720th hour", x.thaw(), 60);
    }

    private static void promise18Mean() {
        IceLanes x = new IceLanes();
        Checks.dueDouble("mean() of a new one", x.mean(), 30.0);
        x.setIce(0, 0, 60);
        Checks.dueDouble("mean() with 30 more", x.mean(), 1110.0 / 36);
        x.setIce(11, 2, 0);
        x.setIce(5, 1, 31);
        Checks.dueDouble("mean() with 1 more", x.mean(), 1081.0 / 36);
        for (int section = 0; section < 12; section++) {
            Checks.setSection(x, section, 0, 0, 0);
        }
        Checks.dueDouble("mean() of open water", x.mean(), 0.0);
    }

    private static void promise19Digest() {
        IceLanes x = new IceLanes();
        x.setWarm(3, 9);
        x.setIce(1, 2, 0);
        x.build(2);
        x.come(0, 0, 25, 3, true);
        x.come(1, 1, 1, 0, false);
        x.send(0, 5);
        x.send(1, 0);
        int[][] wagers = {{0, 7}, {1, 9}};
        x.wager(wagers[0][0], wagers[0][1]);
        x.wager(wagers[1][0], wagers[1][1]);
        int[] warm = new int[14];
        for (int day = 0; day < 14; day++) {
            warm[day] = day == 3 ? 9 : -2;
        }
        Checks.due("digest()", x.digest(), digestOf(x, warm, 2, wagers));
        x.pass(3);
        Checks.setSection(x, 7, 0, 0, 0);
        x.pass(3);
        Checks.due("the thaw", x.count(10), 0);
        Checks.due("wins(0)", x.wins(0), 16);
        Checks.due("digest() behind the thaw", x.digest(), digestOf(x, warm, 2, wagers));
    }

    /** What the document says of the digest, from the answers of the other calls. */
    private static long digestOf(IceLanes x, int[] warm, int hut, int[][] wagers) {
        long d = 757;
        for (int what = 0; what <= 10; what++) {
            d = d * 31 + x.count(what);
        }
        for (int day = 0; day < 14; day++) {
            d = d * 31 + warm[day];
        }
        for (int section = 0; section < 12; section++) {
            for (int lane = 0; lane < 3; lane++) {
                d = d * 31 + x.place(section, lane, 0);
                d = d * 31 + x.place(section, lane, 1);
            }
        }
        for (int section = 0; section < 12; section++) {
            d = d * 31 + (section == hut ? 1 : 0);
        }
        for (int courier = 0; courier < x.count(1); courier++) {
            for (int what = 0; what <= 8; what++) {
                d = d * 31 + x.courier(courier, what);
            }
        }
        for (int wager = 0; wager < wagers.length; wager++) {
            d = d * 31 + wagers[wager][0];
            d = d * 31 + wagers[wager][1];
            d = d * 31 + x.wins(wager);
        }
        return d;
    }

    private static void promise19DigestOfANewOne() {
        int[] warm = new int[14];
        java.util.Arrays.fill(warm, -2);
        IceLanes x = new IceLanes();
        Checks.due("digest() of a new one", x.digest(), digestOf(x, warm, -1, new int[0][]));
        Checks.due("digest() again", x.digest(), new IceLanes().digest());
    }
}
