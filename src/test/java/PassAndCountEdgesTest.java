/** Each sentence that names an edge of promises 12 and 13. */
public final class PassAndCountEdgesTest {
    public static void main(String[] args) {
        passTooFewOrTooManyHours();
        passTheLeastAndTheMostHours();
        passIsHourByHour();
        passWithoutAndWithAllArrivals();
        passCountsArrivalsOfItsHours();
        countWithoutSuchAQuestion();
        countTheHour();
        countCouriers();
        countThoseInEachState();
        countAllInOneState();
        countCracks();
        countOpenWater();
        countHutsAndWagers();
        countTheDayOfTheThaw();
        Checks.end();
    }

    /** "Throws IllegalArgumentException if hours is not 1 to 200." */
    private static void passTooFewOrTooManyHours() {
        for (IceLanes x : Checks.rivers()) {
            for (int hours : Checks.outside(1, 200)) {
                Checks.dueArgument(x, "pass(" + hours + ")", () -> x.pass(hours));
            }
            Checks.dueArgument(x, "pass(-200)", () -> x.pass(-200));
        }
    }

    private static void passTheLeastAndTheMostHours() {
        IceLanes x = new IceLanes();
        Checks.due("pass(1)", x.pass(1), 0);
        Checks.due("the hour", x.count(0), 1);
        Checks.due("pass(200)", x.pass(200), 0);
        Checks.due("the hour", x.count(0), 201);
        Checks.due("the ice behind 17 days of frost", x.place(0, 0, 0), 60);
    }

    /** "Lets hours go by": 200 at once are the same as 200 by one. */
    private static void passIsHourByHour() {
        IceLanes x = Checks.busyRiver();
        IceLanes y = Checks.busyRiver();
        int arrivals = 0;
        for (int hours = 0; hours < 200; hours++) {
            arrivals += y.pass(1);
        }
        Checks.due("the arrivals in 200 hours", x.pass(200), arrivals);
        Checks.due("the digest behind 200 hours", x.digest(), y.digest());
    }

    /** "Returns how many couriers arrived in them": none of none, and all that there can be. */
    private static void passWithoutAndWithAllArrivals() {
        Checks.due("arrivals without couriers", new IceLanes().pass(200), 0);
        for (int skates = 0; skates < 2; skates++) {
            IceLanes x = Checks.stillRiver();
            for (int i = 0; i < 8; i++) {
                x.come(i, 1, 1, 0, skates == 1);
                x.send(i, i + 1);
            }
            Checks.due("arrivals in an hour of rest", x.pass(1), 0);
            Checks.due("arrivals of eight in an hour", x.pass(1), 8);
            Checks.due("arrivals behind", x.pass(200), 0);
        }
    }

    /** Neither those who arrived earlier, nor those at their goals, nor those who break in at theirs. */
    private static void passCountsArrivalsOfItsHours() {
        IceLanes x = Checks.stillRiver();
        x.come(0, 0, 1, 0, false);
        x.come(4, 0, 28, 0, false);
        x.come(8, 0, 1, 0, false);
        x.send(0, 1);
        x.send(1, 5);
        Checks.due("arrivals in two hours", x.pass(2), 1);
        Checks.due("those who broke in", x.count(4), 1);
        x.send(0, 2);
        Checks.due("arrivals of one who had arrived before", x.pass(2), 1);
        Checks.due("arrivals behind", x.pass(2), 0);
        Checks.due("those who have arrived", x.count(3), 1);
    }

    /** "Throws IndexOutOfBoundsException if what is not 0 to 10." */
    private static void countWithoutSuchAQuestion() {
        for (IceLanes x : Checks.rivers()) {
            for (int what : Checks.outside(0, 10)) {
                Checks.dueIndex(x, "count(" + what + ")", () -> x.count(what));
            }
        }
    }

    /** "Time is told in hours, from 0." */
    private static void countTheHour() {
        IceLanes x = new IceLanes();
        for (int hour = 0; hour < 40; hour++) {
            Checks.due("count(0)", x.count(0), hour);
            x.pass(1);
        }
    }

    private static void countCouriers() {
        IceLanes x = Checks.stillRiver();
        for (int i = 0; i < 8; i++) {
            Checks.due("count(1)", x.count(1), i);
            x.come(0, 0, 20, 8, false);
            x.send(i, 1);
        }
        Checks.due("count(1) of all", x.count(1), 8);
        x.pass(200);
        Checks.due("those who broke in", x.count(4), 2);
        Checks.due("count(1) with ones who broke in", x.count(1), 8);
    }

    /** "2 those who go, 3 those who have arrived, 4 those who broke in": one who rests is none of them. */
    private static void countThoseInEachState() {
        IceLanes x = Checks.stillRiver();
        x.come(0, 0, 28, 0, false);
        x.come(0, 2, 28, 0, false);
        x.come(4, 0, 28, 0, false);
        x.come(9, 0, 1, 0, true);
        x.come(9, 0, 1, 0, true);
        x.come(9, 0, 1, 0, true);
        x.come(9, 0, 1, 0, true);
        x.come(9, 0, 1, 0, false);
        x.send(0, 1);
        x.send(1, 1);
        x.send(2, 5);
        for (int i = 3; i < 7; i++) {
            x.send(i, 11);
        }
        x.send(7, 11);
        int[][] due = {{0, 0, 0}, {8, 0, 0}, {1, 4, 3}, {0, 5, 3}, {0, 5, 3}};
        for (int hour = 0; hour < 5; hour++) {
            for (int what = 2; what <= 4; what++) {
                Checks.due("count(" + what + ") in the hour " + hour, x.count(what), due[hour][what - 2]);
            }
            x.pass(1);
        }
    }

    /** As many as there can be in each of the states, and none in the others. */
    private static void countAllInOneState() {
        IceLanes x = Checks.stillRiver();
        for (int i = 0; i < 8; i++) {
            x.come(0, i % 3, 28, 0, false);
        }
        dueStates(x, 0, 0, 0);
        for (int i = 0; i < 8; i++) {
            x.send(i, 2);
        }
        dueStates(x, 0, 0, 0);
        Checks.setSection(x, 1, 60, 60, 60);
        x.pass(1);
        dueStates(x, 8, 0, 0);
        Checks.setSection(x, 2, 0, 60, 0);
        x.pass(2);
        dueStates(x, 0, 8, 0);
        for (int i = 0; i < 8; i++) {
            x.send(i, 3);
            Checks.setSection(x, 3, 0, 28 + 3 * i, 0);
            x.pass(2);
            Checks.due("the cracks by each who broke in", x.place(3, 1, 1), i + 1);
        }
        dueStates(x, 0, 0, 8);
    }

    private static void dueStates(IceLanes x, int go, int arrived, int brokeIn) {
        Checks.due("those who go", x.count(2), go);
        Checks.due("those who have arrived", x.count(3), arrived);
        Checks.due("those who broke in", x.count(4), brokeIn);
    }

    private static void countCracks() {
        for (int cracks = 0; cracks <= 9; cracks++) {
            Checks.due("count(5)", Checks.crackedRiver(cracks).count(5), cracks);
        }
        IceLanes x = Checks.crackedRiver(9);
        x.setIce(1, 0, 0);
        Checks.due("count(5) with the cracks of open water", x.count(5), 9);
        dueCrackAtTheEnd(0, 0, 1);
        dueCrackAtTheEnd(11, 2, 10);
    }

    /** "All cracks", those of the first and of the last place, too. */
    private static void dueCrackAtTheEnd(int section, int lane, int from) {
        IceLanes x = Checks.stillRiver();
        Checks.setSection(x, section, 0, 0, 0);
        x.setIce(section, lane, 30);
        x.come(from, lane, 20, 0, false);
        x.send(0, section);
        x.pass(2);
        Checks.due("the cracks at " + section + ", " + lane, x.place(section, lane, 1), 1);
        Checks.due("count(5) with those at " + section + ", " + lane, x.count(5), 1);
    }

    private static void countOpenWater() {
        IceLanes x = new IceLanes();
        for (int place = 0; place < 36; place++) {
            Checks.due("count(6)", x.count(6), place);
            x.setIce(place / 3, place % 3, 1);
            Checks.due("count(6) with ice of 1", x.count(6), place);
            x.setIce(place / 3, place % 3, 0);
        }
        Checks.due("count(6) of all places", x.count(6), 36);
    }

    private static void countHutsAndWagers() {
        IceLanes x = new IceLanes();
        for (int i = 0; i < 12; i++) {
            Checks.due("count(7)", x.count(7), i);
            Checks.due("count(8)", x.count(8), i);
            Checks.due("count(9)", x.count(9), 100 * i);
            x.build(i);
            x.wager(500, 100);
        }
        Checks.due("count(7) of all", x.count(7), 12);
        Checks.due("count(8) of all", x.count(8), 12);
        Checks.due("count(9) of all", x.count(9), 1200);
    }

    /** "10 the day of the thaw, -1 before it": not 0, though the day may be 0. */
    private static void countTheDayOfTheThaw() {
        IceLanes x = Checks.stillRiver();
        Checks.due("count(10) of a new river", x.count(10), -1);
        Checks.setSection(x, 0, 0, 0, 0);
        Checks.due("count(10) with open water", x.count(10), -1);
        x.pass(1);
        Checks.due("count(10) on the day 0", x.count(10), 0);
        IceLanes y = Checks.stillRiver();
        Checks.passLong(y, 14 * 12);
        Checks.setSection(y, 0, 0, 0, 0);
        Checks.due("count(10) in 14 days", y.count(10), -1);
        y.pass(1);
        Checks.due("count(10) on the day 14", y.count(10), 14);
    }
}
