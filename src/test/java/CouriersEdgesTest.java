/** Each sentence that names an edge of the couriers and of what bears them, and of promises 6 to 9. */
public final class CouriersEdgesTest {
    public static void main(String[] args) {
        comeAtNoPlace();
        comeAtTheFirstAndTheLastPlace();
        comeTooLightOrTooHeavy();
        comeWithTooFewOrTooManyLetters();
        comeWithTheLeastAndTheMost();
        comeWhenThereAreEight();
        comeOfTheLastOneThatThereCanBe();
        comeCountsOnesWhoBrokeIn();
        comeWhereThePlaceJustBears();
        comeWhereCracksTakeWhatItBears();
        comeOnOpenWater();
        comeThrowsTheFirst();
        comeRestsAtItsGoal();
        sendOfNoCourier();
        sendToNoSection();
        sendToTheNearestAndTheFarthest();
        sendOfOneWhoBrokeIn();
        sendThrowsTheFirst();
        sendMakesEachRest();
        sendToWhereOneIs();
        loadOfNoCourier();
        loadOfNoneOrTooMany();
        loadOfTheLeastAndTheMost();
        loadOfOneWhoBrokeIn();
        loadToLessThanNone();
        loadToMoreThanTwenty();
        loadThatThePlaceJustBears();
        loadOnAPlaceThatBearsLessNow();
        loadWithCracks();
        loadThrowsTheFirst();
        loadChangesTheLettersAlone();
        courierThatIsNone();
        courierWithoutSuchAQuestion();
        courierTellsTheLeastAndTheMost();
        courierTellsEachState();
        Checks.end();
    }

    /** "Throws IndexOutOfBoundsException if section is not 0 to 11, or lane is not 0 to 2." */
    private static void comeAtNoPlace() {
        for (IceLanes x : Checks.rivers()) {
            for (int section : Checks.outside(0, 11)) {
                Checks.dueIndex(x, "come(" + section + ", 1, ..)", () -> x.come(section, 1, 1, 0, true));
            }
            for (int lane : Checks.outside(0, 2)) {
                for (int section : new int[] {0, 6, 11}) {
                    Checks.dueIndex(x, "come(" + section + ", " + lane + ", ..)",
                        () -> x.come(section, lane, 1, 0, false));
                }
            }
        }
    }

    private static void comeAtTheFirstAndTheLastPlace() {
        IceLanes x = new IceLanes();
        int[][] places = {{0, 0}, {0, 2}, {11, 0}, {11, 2}};
        for (int i = 0; i < 4; i++) {
            Checks.due("come at a corner", x.come(places[i][0], places[i][1], 1, 0, true), i);
            Checks.due("its section", x.courier(i, 3), places[i][0]);
            Checks.due("its lane", x.courier(i, 4), places[i][1]);
            Checks.due("those there", x.place(places[i][0], places[i][1], 3), 1);
        }
    }

    /** "Throws IllegalArgumentException if weight is not 1 to 40, .." */
    private static void comeTooLightOrTooHeavy() {
        for (IceLanes x : Checks.rivers()) {
            for (int weight : Checks.outside(1, 40)) {
                Checks.dueArgument(x, "come of the weight " + weight, () -> x.come(0, 0, weight, 0, false));
                Checks.dueArgument(x, "come of the weight " + weight, () -> x.come(0, 0, weight, 20, true));
            }
        }
    }

    /** ".. or letters is not 0 to 20." */
    private static void comeWithTooFewOrTooManyLetters() {
        for (IceLanes x : Checks.rivers()) {
            for (int letters : Checks.outside(0, 20)) {
                Checks.dueArgument(x, "come with letters of " + letters, () -> x.come(0, 0, 1, letters, false));
                Checks.dueArgument(x, "come with letters of " + letters, () -> x.come(0, 0, 40, letters, true));
            }
        }
    }

    private static void comeWithTheLeastAndTheMost() {
        int[] weights = {1, 40};
        int[] letters = {0, 20};
        for (int i = 0; i < 4; i++) {
            IceLanes x = new IceLanes();
            x.setIce(5, 1, 60);
            Checks.due("come", x.come(5, 1, weights[i / 2], letters[i % 2], true), 0);
            Checks.due("the weight", x.courier(0, 0), weights[i / 2]);
            Checks.due("the letters", x.courier(0, 1), letters[i % 2]);
        }
    }

    /** "Throws IllegalStateException if there are 8, .." */
    private static void comeWhenThereAreEight() {
        IceLanes x = Checks.fullRiver();
        Checks.dueState(x, "come of a ninth sled", () -> x.come(0, 0, 1, 0, false));
        Checks.dueState(x, "come of a ninth skater", () -> x.come(10, 2, 1, 0, true));
        Checks.dueState(x, "come of a ninth on open water", () -> x.come(11, 2, 1, 0, true));
    }

    private static void comeOfTheLastOneThatThereCanBe() {
        IceLanes x = new IceLanes();
        for (int i = 0; i < 8; i++) {
            Checks.due("couriers", x.count(1), i);
            Checks.due("come", x.come(11 - i, i % 3, i + 1, i, i % 2 == 1), i);
        }
        Checks.due("couriers", x.count(1), 8);
        for (int i = 0; i < 8; i++) {
            long[] due = {i + 1, i, 20, 11 - i, i % 3, 11 - i, 0, 0, i % 2};
            for (int what = 0; what <= 8; what++) {
                Checks.due("courier(" + i + ", " + what + ")", x.courier(i, what), due[what]);
            }
        }
    }

    /** One who is out keeps the number: none comes in the place of one. */
    private static void comeCountsOnesWhoBrokeIn() {
        IceLanes x = Checks.busyRiver();
        for (int i = 4; i < 8; i++) {
            Checks.due("come", x.come(0, 0, 1, 0, true), i);
        }
        Checks.due("those who broke in", x.count(4), 1);
        Checks.dueState(x, "come of a ninth, one of eight out", () -> x.come(0, 0, 1, 0, true));
    }

    /** ".. or the place does not bear the weight and the letters": it does, if the ice is at least these. */
    private static void comeWhereThePlaceJustBears() {
        int[][] loads = {{1, 0}, {1, 1}, {1, 20}, {20, 0}, {20, 20}, {40, 0}, {40, 19}, {40, 20}};
        for (int[] load : loads) {
            IceLanes x = new IceLanes();
            x.setIce(11, 0, load[0] + load[1] - 1);
            Checks.dueState(x, "come on ice of one less", () -> x.come(11, 0, load[0], load[1], false));
            x.setIce(11, 0, load[0] + load[1]);
            Checks.due("come on ice of as much", x.come(11, 0, load[0], load[1], false), 0);
        }
    }

    /** "A place bears a weight, if its ice, less 3 * its cracks, is at least the weight." */
    private static void comeWhereCracksTakeWhatItBears() {
        for (int cracks = 0; cracks <= 9; cracks++) {
            IceLanes x = Checks.crackedRiver(cracks);
            x.setIce(1, 0, 12 + 3 * cracks - 1);
            Checks.dueState(x, "come with " + cracks + " cracks, one less", () -> x.come(1, 0, 10, 2, true));
            x.setIce(1, 0, 12 + 3 * cracks);
            Checks.due("come with " + cracks + " cracks", x.come(1, 0, 10, 2, true), 1);
            Checks.due("the cracks behind one who came", x.place(1, 0, 1), cracks);
        }
    }

    private static void comeOnOpenWater() {
        IceLanes x = new IceLanes();
        Checks.setSection(x, 3, 0, 1, 0);
        Checks.dueState(x, "come on open water", () -> x.come(3, 0, 1, 0, true));
        Checks.due("come on ice of 1", x.come(3, 1, 1, 0, true), 0);
    }

    private static void comeThrowsTheFirst() {
        IceLanes[] rivers = {new IceLanes(), Checks.fullRiver()};
        for (IceLanes x : rivers) {
            Checks.setSection(x, 4, 0, 0, 0);
            Checks.dueIndex(x, "come(12, 0, 0, 0)", () -> x.come(12, 0, 0, 0, true));
            Checks.dueIndex(x, "come(-1, 0, 41, 0)", () -> x.come(-1, 0, 41, 0, true));
            Checks.dueIndex(x, "come(0, 3, 1, 21)", () -> x.come(0, 3, 1, 21, true));
            Checks.dueIndex(x, "come(0, -1, 1, -1)", () -> x.come(0, -1, 1, -1, true));
            Checks.dueIndex(x, "come(12, 3, 41, 21)", () -> x.come(12, 3, 41, 21, true));
            Checks.dueIndex(x, "come(0, 3, 40, 20)", () -> x.come(0, 3, 40, 20, true));
            Checks.dueArgument(x, "come(4, 0, 0, 0)", () -> x.come(4, 0, 0, 0, true));
            Checks.dueArgument(x, "come(4, 0, 41, 0)", () -> x.come(4, 0, 41, 0, true));
            Checks.dueArgument(x, "come(4, 0, 1, 21)", () -> x.come(4, 0, 1, 21, true));
            Checks.dueArgument(x, "come(4, 0, 1, -1)", () -> x.come(4, 0, 1, -1, true));
            Checks.dueArgument(x, "come(4, 0, MAX, MAX)",
                () -> x.come(4, 0, Integer.MAX_VALUE, Integer.MAX_VALUE, true));
            Checks.dueState(x, "come(4, 0, 1, 0)", () -> x.come(4, 0, 1, 0, true));
        }
    }

    /** "Returns the number; the goal is the section where this one rests." */
    private static void comeRestsAtItsGoal() {
        IceLanes x = Checks.stillRiver();
        x.come(0, 0, 1, 0, true);
        x.come(11, 2, 1, 0, false);
        Checks.due("arrivals of ones at their goals", x.pass(200), 0);
        long[][] due = {{1, 0, 20, 0, 0, 0, 0, 0, 1}, {1, 0, 20, 11, 2, 11, 0, 0, 0}};
        for (int courier = 0; courier < 2; courier++) {
            for (int what = 0; what <= 8; what++) {
                Checks.due("courier(" + courier + ", " + what + ")", x.courier(courier, what), due[courier][what]);
            }
        }
    }

    /** "Throws IndexOutOfBoundsException if there is no such courier, .." */
    private static void sendOfNoCourier() {
        for (IceLanes x : Checks.rivers()) {
            for (int courier : Checks.outside(0, x.count(1) - 1)) {
                Checks.dueIndex(x, "send(" + courier + ", 0)", () -> x.send(courier, 0));
                Checks.dueIndex(x, "send(" + courier + ", 11)", () -> x.send(courier, 11));
            }
        }
    }

    /** ".. or section is not 0 to 11." */
    private static void sendToNoSection() {
        for (IceLanes x : new IceLanes[] {Checks.busyRiver(), Checks.fullRiver()}) {
            for (int courier = 0; courier < x.count(1); courier++) {
                int sent = courier;
                for (int section : Checks.outside(0, 11)) {
                    Checks.dueIndex(x, "send(" + sent + ", " + section + ")", () -> x.send(sent, section));
                }
            }
        }
    }

    /** "Returns how many sections it is away", from none to 11, either way. */
    private static void sendToTheNearestAndTheFarthest() {
        IceLanes x = Checks.fullRiver();
        for (int courier = 0; courier < 8; courier++) {
            for (int goal = 0; goal < 12; goal++) {
                Checks.due("send(" + courier + ", " + goal + ")", x.send(courier, goal), Math.abs(courier - goal));
                Checks.due("the goal", x.courier(courier, 5), goal);
            }
        }
        IceLanes y = new IceLanes();
        y.come(0, 0, 1, 0, true);
        y.come(11, 2, 1, 0, true);
        Checks.due("send from 0 to 11", y.send(0, 11), 11);
        Checks.due("send from 11 to 0", y.send(1, 0), 11);
        Checks.due("send from 11 to 11", y.send(1, 11), 0);
    }

    /** "Throws IllegalStateException if this one broke in", wherever one is sent. */
    private static void sendOfOneWhoBrokeIn() {
        IceLanes x = Checks.busyRiver();
        for (int section = 0; section < 12; section++) {
            int goal = section;
            Checks.dueState(x, "send of one who broke in to " + goal, () -> x.send(2, goal));
        }
        x.setIce(6, 0, 60);
        x.setIce(6, 1, 60);
        x.setIce(6, 2, 60);
        Checks.dueState(x, "send of one who broke in, on thick ice", () -> x.send(2, 0));
    }

    private static void sendThrowsTheFirst() {
        IceLanes x = Checks.busyRiver();
        Checks.dueIndex(x, "send(4, 12)", () -> x.send(4, 12));
        Checks.dueIndex(x, "send(2, 12) of one who broke in", () -> x.send(2, 12));
        Checks.dueIndex(x, "send(2, -1) of one who broke in", () -> x.send(2, -1));
        Checks.dueState(x, "send(2, 11) of one who broke in", () -> x.send(2, 11));
    }

    /** "One rests, with another goal than before; one who has arrived rests again." */
    private static void sendMakesEachRest() {
        IceLanes x = Checks.busyRiver();
        int[] sent = {0, 1, 3};
        for (int courier : sent) {
            Checks.due("send to 2", x.send(courier, 2), x.courier(courier, 3) - 2);
            Checks.due("the state of " + courier, x.courier(courier, 6), 0);
            Checks.due("the goal of " + courier, x.courier(courier, 5), 2);
        }
        x.pass(1);
        for (int courier : sent) {
            Checks.due("the state of " + courier + " an hour later", x.courier(courier, 6), 1);
        }
    }

    /** One who is sent to the section where one is rests there, and neither goes nor arrives. */
    private static void sendToWhereOneIs() {
        IceLanes x = Checks.stillRiver();
        x.come(3, 1, 1, 0, false);
        x.send(0, 6);
        x.pass(2);
        Checks.due("one goes", x.courier(0, 6), 1);
        Checks.due("send to where one is", x.send(0, 4), 0);
        Checks.due("arrives there", x.arrives(0), 0);
        Checks.due("arrivals", x.pass(30), 0);
        long[] due = {1, 0, 20, 4, 0, 4, 0, 1, 0};
        for (int what = 0; what <= 8; what++) {
            Checks.due("courier(0, " + what + ")", x.courier(0, what), due[what]);
        }
    }

    /** "Throws IndexOutOfBoundsException if there is no such courier." */
    private static void loadOfNoCourier() {
        for (IceLanes x : Checks.rivers()) {
            for (int courier : Checks.outside(0, x.count(1) - 1)) {
                Checks.dueIndex(x, "load(" + courier + ", 1)", () -> x.load(courier, 1));
                Checks.dueIndex(x, "load(" + courier + ", -1)", () -> x.load(courier, -1));
            }
        }
    }

    /** "Throws IllegalArgumentException if many is 0, or not -20 to 20." */
    private static void loadOfNoneOrTooMany() {
        for (IceLanes x : new IceLanes[] {Checks.busyRiver(), Checks.fullRiver()}) {
            for (int courier = 0; courier < x.count(1); courier++) {
                int loaded = courier;
                Checks.dueArgument(x, "load(" + loaded + ", 0)", () -> x.load(loaded, 0));
                for (int many : Checks.outside(-20, 20)) {
                    Checks.dueArgument(x, "load(" + loaded + ", " + many + ")", () -> x.load(loaded, many));
                }
            }
        }
    }

    /** "How many more; less than 0: fewer. Returns how many this one carries then." */
    private static void loadOfTheLeastAndTheMost() {
        IceLanes x = new IceLanes();
        x.come(0, 0, 1, 0, true);
        Checks.due("load(0, 20)", x.load(0, 20), 20);
        Checks.due("load(0, -20)", x.load(0, -20), 0);
        Checks.due("load(0, 1)", x.load(0, 1), 1);
        Checks.due("load(0, -1)", x.load(0, -1), 0);
    }

    /** "Throws IllegalStateException if this one broke in, .." */
    private static void loadOfOneWhoBrokeIn() {
        IceLanes x = Checks.busyRiver();
        for (int lane = 0; lane < 3; lane++) {
            x.setIce(6, lane, 60);
        }
        Checks.dueState(x, "load(2, 1) of one who broke in", () -> x.load(2, 1));
        Checks.dueState(x, "load(2, 20) of one who broke in", () -> x.load(2, 20));
        Checks.dueState(x, "load(2, -1) of one who broke in", () -> x.load(2, -1));
    }

    /** ".. there would be less than 0 .." */
    private static void loadToLessThanNone() {
        for (int letters = 0; letters <= 20; letters++) {
            IceLanes x = new IceLanes();
            x.come(4, 1, 10, letters, false);
            int all = letters;
            if (all < 20) {
                Checks.dueState(x, "load(0, " + (-all - 1) + ")", () -> x.load(0, -all - 1));
                Checks.dueState(x, "load(0, -20)", () -> x.load(0, -20));
            }
            if (all > 0) {
                Checks.due("load(0, " + -all + ")", x.load(0, -all), 0);
            }
        }
    }

    /** ".. or more than 20 .." */
    private static void loadToMoreThanTwenty() {
        for (int letters = 0; letters <= 20; letters++) {
            IceLanes x = new IceLanes();
            x.setIce(4, 1, 60);
            x.come(4, 1, 10, letters, false);
            int room = 20 - letters;
            if (room < 20) {
                Checks.dueState(x, "load(0, " + (room + 1) + ")", () -> x.load(0, room + 1));
                Checks.dueState(x, "load(0, 20)", () -> x.load(0, 20));
            }
            if (room > 0) {
                Checks.due("load(0, " + room + ")", x.load(0, room), 20);
            }
        }
    }

    /** ".. or the place would not bear it": it would, if the ice is at least the weight and all letters. */
    private static void loadThatThePlaceJustBears() {
        int[] weights = {10, 11, 20, 40};
        for (int weight : weights) {
            IceLanes x = new IceLanes();
            x.setIce(4, 1, weight + 9);
            x.setIce(4, 0, 60);
            x.setIce(4, 2, 60);
            x.come(4, 1, weight, 3, false);
            Checks.dueState(x, "load(0, 7) on ice of one less", () -> x.load(0, 7));
            Checks.due("load(0, 6) on ice of as much", x.load(0, 6), 9);
            Checks.dueState(x, "load(0, 1) on ice of one less", () -> x.load(0, 1));
        }
    }

    /** Taking letters is refused, too, while the place does not bear those that are left. */
    private static void loadOnAPlaceThatBearsLessNow() {
        IceLanes x = new IceLanes();
        x.come(4, 1, 10, 8, false);
        x.setIce(4, 1, 14);
        Checks.dueState(x, "load(0, -3), which leaves one too many", () -> x.load(0, -3));
        Checks.due("load(0, -4)", x.load(0, -4), 4);
        x.setIce(4, 1, 9);
        Checks.dueState(x, "load(0, -4) where the weight alone is too much", () -> x.load(0, -4));
    }

    private static void loadWithCracks() {
        for (int cracks = 0; cracks <= 9; cracks++) {
            IceLanes x = Checks.crackedRiver(cracks);
            x.setIce(1, 0, 12 + 3 * cracks);
            x.come(1, 0, 10, 0, true);
            Checks.dueState(x, "load(1, 3) on " + cracks + " cracks", () -> x.load(1, 3));
            Checks.due("load(1, 2) on " + cracks + " cracks", x.load(1, 2), 2);
            Checks.due("the cracks behind load", x.place(1, 0, 1), cracks);
        }
    }

    private static void loadThrowsTheFirst() {
        IceLanes x = Checks.busyRiver();
        Checks.dueIndex(x, "load(4, 0)", () -> x.load(4, 0));
        Checks.dueIndex(x, "load(4, 21)", () -> x.load(4, 21));
        Checks.dueIndex(x, "load(-1, -21)", () -> x.load(-1, -21));
        Checks.dueArgument(x, "load(2, 0) of one who broke in", () -> x.load(2, 0));
        Checks.dueArgument(x, "load(2, 21) of one who broke in", () -> x.load(2, 21));
        Checks.dueArgument(x, "load(0, -21) to less than 0", () -> x.load(0, -21));
        Checks.dueArgument(x, "load(0, 21) to more than 20", () -> x.load(0, 21));
        Checks.setSection(x, x.courier(3, 3), 0, 0, 0);
        Checks.dueArgument(x, "load(3, 0) on open water", () -> x.load(3, 0));
        Checks.dueState(x, "load(3, 1) on open water", () -> x.load(3, 1));
    }

    private static void loadChangesTheLettersAlone() {
        IceLanes x = Checks.busyRiver();
        int[] loaded = {0, 1, 3};
        for (int courier : loaded) {
            int[] before = new int[9];
            for (int what = 0; what <= 8; what++) {
                before[what] = x.courier(courier, what);
            }
            x.load(courier, 1);
            for (int what = 0; what <= 8; what++) {
                Checks.due("courier(" + courier + ", " + what + ") behind load", x.courier(courier, what),
                    before[what] + (what == 1 ? 1 : 0));
            }
        }
    }

    /** "Throws IndexOutOfBoundsException if there is no such courier, .." */
    private static void courierThatIsNone() {
        for (IceLanes x : Checks.rivers()) {
            for (int courier : Checks.outside(0, x.count(1) - 1)) {
                for (int what = 0; what <= 8; what++) {
                    int asked = what;
                    Checks.dueIndex(x, "courier(" + courier + ", " + asked + ")", () -> x.courier(courier, asked));
                }
            }
        }
    }

    /** ".. or what is not 0 to 8." */
    private static void courierWithoutSuchAQuestion() {
        for (IceLanes x : Checks.rivers()) {
            for (int what : Checks.outside(0, 8)) {
                for (int courier = 0; courier <= x.count(1); courier++) {
                    int asked = courier;
                    Checks.dueIndex(x, "courier(" + asked + ", " + what + ")", () -> x.courier(asked, what));
                }
            }
        }
    }

    private static void courierTellsTheLeastAndTheMost() {
        IceLanes x = Checks.stillRiver();
        x.setIce(11, 2, 60);
        x.come(0, 0, 1, 0, false);
        x.come(11, 2, 40, 20, true);
        long[][] due = {{1, 0, 20, 0, 0, 0, 0, 0, 0}, {40, 20, 20, 11, 2, 11, 0, 0, 1}};
        for (int courier = 0; courier < 2; courier++) {
            for (int what = 0; what <= 8; what++) {
                Checks.due("courier(" + courier + ", " + what + ")", x.courier(courier, what), due[courier][what]);
            }
        }
        x.send(0, 11);
        x.pass(12);
        Checks.due("the strength behind 11 steps", x.courier(0, 2), 9);
        x.send(0, 1);
        x.pass(11);
        Checks.due("the least strength", x.courier(0, 2), 0);
        Checks.due("the state with the least strength", x.courier(0, 6), 2);
        Checks.due("the steps in all", x.courier(0, 7), 21);
    }

    /** "6 0 if this one rests, 1 goes, 2 has arrived, 3 broke in." */
    private static void courierTellsEachState() {
        IceLanes x = Checks.stillRiver();
        x.come(0, 0, 28, 0, false);
        x.send(0, 2);
        Checks.due("one rests", x.courier(0, 6), 0);
        x.setIce(1, 0, 60);
        x.pass(1);
        Checks.due("one goes", x.courier(0, 6), 1);
        x.pass(1);
        Checks.due("one goes on", x.courier(0, 6), 1);
        x.setIce(2, 0, 60);
        x.pass(1);
        Checks.due("one has arrived", x.courier(0, 6), 2);
        x.send(0, 3);
        Checks.due("one rests again", x.courier(0, 6), 0);
        x.pass(2);
        Checks.due("one broke in", x.courier(0, 6), 3);
    }
}
