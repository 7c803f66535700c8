/** Promises 10 and 11: wager, wins; and which wagers win at the thaw. */
public final class WagersTest {
    public static void main(String[] args) {
        promise10Wager();
        promise10WagerThrows();
        promise11WinsOfTheNearest();
        promise11WinsOnBothSides();
        promise11WinsOnTheDay();
        promise11NoWagers();
        Checks.end();
    }

    private static void promise10Wager() {
        IceLanes x = new IceLanes();
        Checks.due("wager(0, 1)", x.wager(0, 1), 0);
        Checks.due("wager(500, 100)", x.wager(500, 100), 1);
        Checks.due("wager(0, 1) again", x.wager(0, 1), 2);
        Checks.due("count(8)", x.count(8), 3);
        Checks.due("count(9)", x.count(9), 102);
    }

    private static void promise10WagerThrows() {
        IceLanes x = Checks.stillRiver();
        for (int i = 0; i < 11; i++) {
            x.wager(i, 3);
        }
        Checks.dueArgument(x, "wager(-1, 1)", () -> x.wager(-1, 1));
        Checks.dueArgument(x, "wager(501, 1)", () -> x.wager(501, 1));
        Checks.dueArgument(x, "wager(0, 0)", () -> x.wager(0, 0));
        Checks.dueArgument(x, "wager(0, 101)", () -> x.wager(0, 101));
        Checks.due("the twelfth wager", x.wager(11, 3), 11);
        Checks.dueState(x, "the thirteenth wager", () -> x.wager(1, 1));
        Checks.dueArgument(x, "wager(0, 0) as the thirteenth", () -> x.wager(0, 0));
        IceLanes y = thawedOnDay(0);
        Checks.dueState(y, "wager(1, 1) behind the thaw", () -> y.wager(1, 1));
        Checks.dueArgument(y, "wager(501, 1) behind the thaw", () -> y.wager(501, 1));
        Checks.setSection(y, 5, 9, 9, 9);
        y.pass(13);
        Checks.dueState(y, "wager(1, 1) when there is ice again", () -> y.wager(1, 1));
    }

    private static void promise11WinsOfTheNearest() {
        IceLanes x = thawedOnDay(4, 9, 30, 1, 10, 2, 5);
        Checks.due("count(10)", x.count(10), 4);
        Checks.due("wins(0)", x.wins(0), 0);
        Checks.due("wins(1)", x.wins(1), 0);
        Checks.due("wins(2)", x.wins(2), 45);
        Checks.dueIndex(x, "wins(-1)", () -> x.wins(-1));
        Checks.dueIndex(x, "wins(3)", () -> x.wins(3));
        Checks.dueIndex(x, "wins(12)", () -> x.wins(12));
    }

    private static void promise11WinsOnBothSides() {
        IceLanes x = thawedOnDay(4, 6, 30, 1, 10, 2, 5, 2, 8);
        Checks.due("wins(0)", x.wins(0), 17);
        Checks.due("wins(1)", x.wins(1), 0);
        Checks.due("wins(2)", x.wins(2), 17);
        Checks.due("wins(3)", x.wins(3), 17);
        x.pass(50);
        Checks.due("wins(3) later", x.wins(3), 17);
        Checks.due("count(9) later", x.count(9), 53);
        IceLanes least = thawedOnDay(0, 3, 1, 3, 1, 3, 2);
        Checks.due("wins of 4 / 3", least.wins(1), 1);
    }

    private static void promise11WinsOnTheDay() {
        IceLanes x = Checks.stillRiver();
        x.wager(1, 60);
        x.wager(0, 7);
        x.wager(2, 7);
        Checks.setSection(x, 5, 0, 0, 0);
        Checks.due("wins(1) before the thaw", x.wins(1), 0);
        Checks.due("count(10) before the hour", x.count(10), -1);
        x.pass(1);
        Checks.due("count(10) behind the hour", x.count(10), 0);
        Checks.due("wins(0)", x.wins(0), 0);
        Checks.due("wins(1)", x.wins(1), 74);
    }

    private static void promise11NoWagers() {
        IceLanes x = thawedOnDay(2);
        Checks.dueIndex(x, "wins(0) without wagers", () -> x.wins(0));
        Checks.due("count(9) without wagers", x.count(9), 0);
    }

    /** A river with wagers, given as day, stake, day, stake .., whose thaw came in the last hour of the day. */
    private static IceLanes thawedOnDay(int day, int... wagers) {
        IceLanes x = Checks.stillRiver();
        for (int i = 0; i < wagers.length; i += 2) {
            x.wager(wagers[i], wagers[i + 1]);
        }
        x.pass(12 * day + 11);
        Checks.setSection(x, 5, 0, 0, 0);
        x.pass(1);
        return x;
    }
}
