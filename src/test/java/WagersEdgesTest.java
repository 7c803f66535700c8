import java.util.Arrays;

/** Each sentence that names an edge of the wagers, and of promises 10 and 11. */
public final class WagersEdgesTest {
    public static void main(String[] args) {
        wagerOnNoDay();
        wagerOfNoStake();
        wagerOfTheLeastAndTheMost();
        wagerWhenThereAreTwelve();
        wagerWhenTheThawHasCome();
        wagerAheadOfTheHourOfTheThaw();
        wagerThrowsTheFirst();
        winsOfNoWager();
        winsNothingBeforeTheThaw();
        winsOfASingleWager();
        winsOfTheNearestDays();
        winsOfTheFarthestDays();
        winsShareAllStakes();
        winsOfTwelve();
        winsOfTheMostStakes();
        winsStay();
        Checks.end();
    }

    /** "Throws IllegalArgumentException if day is not 0 to 500, .." */
    private static void wagerOnNoDay() {
        for (IceLanes x : Checks.rivers()) {
            for (int day : Checks.outside(0, 500)) {
                Checks.dueArgument(x, "wager(" + day + ", 1)", () -> x.wager(day, 1));
                Checks.dueArgument(x, "wager(" + day + ", 100)", () -> x.wager(day, 100));
            }
        }
    }

    /** ".. or stake is not 1 to 100." */
    private static void wagerOfNoStake() {
        for (IceLanes x : Checks.rivers()) {
            for (int stake : Checks.outside(1, 100)) {
                Checks.dueArgument(x, "wager(0, " + stake + ")", () -> x.wager(0, stake));
                Checks.dueArgument(x, "wager(500, " + stake + ")", () -> x.wager(500, stake));
            }
        }
    }

    private static void wagerOfTheLeastAndTheMost() {
        IceLanes x = new IceLanes();
        int[][] wagers = {{0, 1}, {0, 100}, {500, 1}, {500, 100}};
        int stakes = 0;
        for (int i = 0; i < 4; i++) {
            Checks.due("wager", x.wager(wagers[i][0], wagers[i][1]), i);
            stakes += wagers[i][1];
            Checks.due("wagers", x.count(8), i + 1);
            Checks.due("all stakes", x.count(9), stakes);
        }
    }

    /** "Throws IllegalStateException if there are 12, .." */
    private static void wagerWhenThereAreTwelve() {
        IceLanes x = new IceLanes();
        for (int i = 0; i < 12; i++) {
            Checks.due("wagers", x.count(8), i);
            Checks.due("wager", x.wager(40 * i, i + 1), i);
        }
        Checks.due("wagers", x.count(8), 12);
        Checks.due("all stakes", x.count(9), 78);
        Checks.dueState(x, "wager(0, 1) as the thirteenth", () -> x.wager(0, 1));
        Checks.dueState(x, "wager(500, 100) as the thirteenth", () -> x.wager(500, 100));
    }

    /** ".. or the thaw has come", with no wager there, and with ice there again. */
    private static void wagerWhenTheThawHasCome() {
        IceLanes x = thawedOn(0);
        Checks.dueState(x, "wager(0, 1) behind the thaw", () -> x.wager(0, 1));
        Checks.dueState(x, "wager(500, 100) behind the thaw", () -> x.wager(500, 100));
        Checks.setSection(x, 5, 60, 60, 60);
        x.pass(200);
        Checks.dueState(x, "wager(500, 100) with ice again", () -> x.wager(500, 100));
        IceLanes full = Checks.fullRiver();
        Checks.dueState(full, "wager(0, 1) with both", () -> full.wager(0, 1));
    }

    /** Open water alone is not the thaw: it comes in an hour. */
    private static void wagerAheadOfTheHourOfTheThaw() {
        IceLanes x = Checks.stillRiver();
        Checks.setSection(x, 5, 0, 0, 0);
        Checks.due("wager(0, 1) with open water", x.wager(0, 1), 0);
        x.pass(1);
        Checks.due("wins(0), wagered just ahead", x.wins(0), 1);
        Checks.dueState(x, "wager(0, 1) just behind", () -> x.wager(0, 1));
    }

    private static void wagerThrowsTheFirst() {
        IceLanes x = new IceLanes();
        for (int i = 0; i < 12; i++) {
            x.wager(i, 1);
        }
        for (IceLanes refusing : new IceLanes[] {x, thawedOn(0), Checks.fullRiver()}) {
            Checks.dueArgument(refusing, "wager(-1, 1)", () -> refusing.wager(-1, 1));
            Checks.dueArgument(refusing, "wager(501, 100)", () -> refusing.wager(501, 100));
            Checks.dueArgument(refusing, "wager(0, 0)", () -> refusing.wager(0, 0));
            Checks.dueArgument(refusing, "wager(500, 101)", () -> refusing.wager(500, 101));
            Checks.dueState(refusing, "wager(0, 1)", () -> refusing.wager(0, 1));
        }
    }

    /** "Throws IndexOutOfBoundsException if there is no such wager." */
    private static void winsOfNoWager() {
        for (IceLanes x : Checks.rivers()) {
            for (int wager : Checks.outside(0, x.count(8) - 1)) {
                Checks.dueIndex(x, "wins(" + wager + ")", () -> x.wins(wager));
            }
        }
        IceLanes x = thawedOn(0);
        Checks.dueIndex(x, "wins(0) behind a thaw without wagers", () -> x.wins(0));
    }

    /** "Returns what it wins; 0 before the thaw, .." */
    private static void winsNothingBeforeTheThaw() {
        IceLanes x = Checks.stillRiver();
        for (int i = 0; i < 12; i++) {
            x.wager(0, 100);
        }
        Checks.setSection(x, 5, 0, 0, 0);
        for (int i = 0; i < 12; i++) {
            Checks.due("wins(" + i + ") before the thaw", x.wins(i), 0);
        }
        x.pass(1);
        for (int i = 0; i < 12; i++) {
            Checks.due("wins(" + i + ") in the thaw", x.wins(i), 100);
        }
    }

    /** A single one is the nearest, however far it is. */
    private static void winsOfASingleWager() {
        dueWins(thawedOn(0, 0), 1);
        dueWins(thawedOn(0, 500), 1);
        dueWins(thawedOn(250, 0), 1);
        dueWins(thawedOn(510, 500), 1);
        dueWins(thawedOn(510, 0), 1);
    }

    /** "Those on the nearest days to it (with the least difference, without its sign) win", the others 0. */
    private static void winsOfTheNearestDays() {
        dueWins(thawedOn(5, 5, 4, 6), 6, 0, 0);
        dueWins(thawedOn(5, 4, 6), 1, 1);
        dueWins(thawedOn(5, 6, 4), 1, 1);
        dueWins(thawedOn(5, 4, 7), 3, 0);
        dueWins(thawedOn(5, 3, 6), 0, 3);
        dueWins(thawedOn(5, 7, 4, 6, 3), 0, 5, 5, 0);
        dueWins(thawedOn(0, 1, 0), 0, 3);
        dueWins(thawedOn(1, 0, 2, 3), 3, 3, 0);
    }

    /** The days 0 and 500, and a thaw between them, and behind both. */
    private static void winsOfTheFarthestDays() {
        dueWins(thawedOn(0, 500, 0), 0, 3);
        dueWins(thawedOn(249, 0, 500), 3, 0);
        dueWins(thawedOn(250, 0, 500), 1, 1);
        dueWins(thawedOn(251, 0, 500), 0, 3);
        dueWins(thawedOn(510, 0, 500, 499), 0, 6, 0);
    }

    /** "Each one all stakes / the number of these; the rest is kept." */
    private static void winsShareAllStakes() {
        dueWins(thawedOn(2, 2, 2), 1, 1);
        dueWins(thawedOn(2, 2, 2, 2), 2, 2, 2);
        dueWins(thawedOn(2, 2, 2, 9, 2), 3, 3, 0, 3);
        dueWins(thawedOn(2, 9, 2, 9, 9), 0, 10, 0, 0);
        dueWins(thawedOn(2, 2, 9, 2, 9, 9), 7, 0, 7, 0, 0);
        dueWins(thawedOn(2, 2, 2, 2, 2, 9), 3, 3, 3, 3, 0);
    }

    private static void winsOfTwelve() {
        int[] days = new int[12];
        int[] due = new int[12];
        Arrays.fill(due, 78 / 12);
        dueWins(thawedOn(0, days), due);
        Arrays.fill(days, 500);
        dueWins(thawedOn(0, days), due);
        Arrays.fill(due, 0);
        days[11] = 499;
        due[11] = 78;
        dueWins(thawedOn(0, days), due);
        days[0] = 499;
        due[0] = 39;
        due[11] = 39;
        dueWins(thawedOn(0, days), due);
    }

    private static void winsOfTheMostStakes() {
        IceLanes x = Checks.stillRiver();
        for (int i = 0; i < 12; i++) {
            x.wager(i, 100);
        }
        Checks.due("all stakes", x.count(9), 1200);
        Checks.setSection(x, 5, 0, 0, 0);
        x.pass(1);
        for (int i = 0; i < 12; i++) {
            Checks.due("wins(" + i + ")", x.wins(i), i == 0 ? 1200 : 0);
        }
    }

    /** Neither more hours, nor open water on a later day, nor a refused wager changes what one wins. */
    private static void winsStay() {
        IceLanes x = thawedOn(1, 1, 3);
        dueWins(x, 3, 0);
        Checks.dueState(x, "wager(1, 1) behind the thaw", () -> x.wager(1, 1));
        Checks.setSection(x, 5, 9, 9, 9);
        x.pass(24);
        Checks.setSection(x, 6, 0, 0, 0);
        x.pass(24);
        Checks.due("the day of the thaw", x.count(10), 1);
        Checks.due("wagers", x.count(8), 2);
        Checks.due("all stakes", x.count(9), 3);
        dueWins(x, 3, 0);
    }

    private static void dueWins(IceLanes x, int... due) {
        Checks.due("wagers", x.count(8), due.length);
        for (int wager = 0; wager < due.length; wager++) {
            Checks.due("wins(" + wager + ") of " + due.length + ", thaw on " + x.count(10), x.wins(wager), due[wager]);
        }
    }

    /** A river with a wager on each of the days, of the stakes 1, 2, 3 .., whose thaw has come on that day. */
    private static IceLanes thawedOn(int day, int... wagerDays) {
        IceLanes x = Checks.stillRiver();
        for (int i = 0; i < wagerDays.length; i++) {
            x.wager(wagerDays[i], i + 1);
        }
        Checks.passLong(x, 12 * day);
        Checks.setSection(x, 5, 0, 0, 0);
        x.pass(1);
        Checks.due("the day of the thaw", x.count(10), day);
        return x;
    }
}
