/** Each sentence that names an edge of the river or the frost, and of promises 1 to 5. */
public final class RiverEdgesTest {
    public static void main(String[] args) {
        riversOfTheTests();
        allCallsThatThereAre();
        eachPlaceIsOneOfItsOwn();
        openWaterIsIceOfNone();
        tableWrapsAround();
        tableOfNow();
        newRiverHasNothing();
        setWarmOfNoDay();
        setWarmOfTheFirstAndTheLastDay();
        setWarmTooWarmOrTooCold();
        setWarmOfTheLeastAndTheMost();
        setWarmThrowsTheFirst();
        setIceOfNoPlace();
        setIceTooThinOrTooThick();
        setIceOfTheLeastAndTheMost();
        setIceThrowsTheFirst();
        buildAtNoSection();
        buildFromNoneToAll();
        buildOnceOnly();
        placeThatIsNone();
        placeWithoutSuchAQuestion();
        placeTellsTheLeastAndTheMostIce();
        placeTellsTheLeastAndTheMostCracks();
        placeBearsAtLeastNothing();
        placeTellsNoCouriersAndEight();
        placeTellsOfNoneWhoIsOut();
        Checks.end();
    }

    /** What the tests of refused calls stand on. */
    private static void riversOfTheTests() {
        IceLanes busy = Checks.busyRiver();
        for (int courier = 0; courier < 4; courier++) {
            int[] states = {1, 2, 3, 0};
            Checks.due("the state of " + courier, busy.courier(courier, 6), states[courier]);
        }
        Checks.due("the section of one who broke in at the goal", busy.courier(2, 3), busy.courier(2, 5));
        int[] due = {1, 8, 0, 0, 0, 0, 3, 12, 12, 84, 0};
        IceLanes full = Checks.fullRiver();
        for (int what = 0; what <= 10; what++) {
            Checks.due("count(" + what + ") of a full river", full.count(what), due[what]);
        }
    }

    /** "An object is used for at most 512 calls after it has been made": the last of them is right, too. */
    private static void allCallsThatThereAre() {
        IceLanes x = Checks.stillRiver();
        x.wager(0, 1);
        x.wager(500, 100);
        for (int i = 0; i < 490; i++) {
            x.pass(200);
        }
        Checks.setSection(x, 5, 0, 0, 0);
        x.pass(1);
        Checks.due("the 511th call, count(10)", x.count(10), 98000 / 12);
        Checks.due("the 512th call, wins(1)", x.wins(1), 101);
    }

    /** "12 sections long, numbered from 0, and has 3 lanes, 0 to 2, in each section." */
    private static void eachPlaceIsOneOfItsOwn() {
        IceLanes x = new IceLanes();
        for (int place = 0; place < 36; place++) {
            Checks.due("the first ice of place " + place, x.setIce(place / 3, place % 3, place), 30);
        }
        for (int place = 0; place < 36; place++) {
            Checks.due("the ice of place " + place, x.place(place / 3, place % 3, 0), place);
        }
    }

    /** "It is open water with ice of 0": not with ice of 1, even if cracks take all that it bears. */
    private static void openWaterIsIceOfNone() {
        IceLanes x = Checks.crackedRiver(1);
        x.setIce(1, 0, 1);
        Checks.due("what ice of 1 with a crack bears", x.place(1, 0, 2), 0);
        Checks.due("open water with ice of 1", x.count(6), 0);
        x.setIce(1, 0, 0);
        Checks.due("open water with ice of 0", x.count(6), 1);
    }

    /** "On the day d (hour / 12) it is that with the number d by the remainder of 14." */
    private static void tableWrapsAround() {
        int[] warm = {-1, 2, -3, 4, -5, 6, -7, 8, -9, 9, -8, 7, -6, 5};
        IceLanes x = new IceLanes();
        for (int day = 0; day < 14; day++) {
            x.setWarm(day, warm[day]);
        }
        for (int day = 0; day < 43; day++) {
            x.setIce(6, 1, 30);
            x.pass(1);
            int degrees = warm[day % 14];
            Checks.due("the ice on the day " + day, x.place(6, 1, 0), 30 - (degrees > 0 ? 2 * degrees : degrees));
            x.pass(11);
        }
    }

    /** A table that is set in a day's first hour or later holds from the next time on that this number comes. */
    private static void tableOfNow() {
        IceLanes x = Checks.stillRiver();
        x.setWarm(0, -1);
        x.pass(1);
        Checks.due("the ice with a table set ahead of the hour", x.place(0, 0, 0), 31);
        x.setWarm(0, -2);
        x.pass(167);
        Checks.due("the ice with a table set behind the hour", x.place(0, 0, 0), 31);
        x.pass(1);
        Checks.due("the ice 14 days later", x.place(0, 0, 0), 33);
    }

    /** "Creates a river without huts and couriers, at the hour 0." */
    private static void newRiverHasNothing() {
        IceLanes x = new IceLanes();
        for (int what : new int[] {0, 1, 2, 3, 4, 5, 6, 7, 8, 9}) {
            Checks.due("count(" + what + ") of a new river", x.count(what), 0);
        }
        Checks.dueIndex(x, "courier(0, 0) of a new river", () -> x.courier(0, 0));
        Checks.dueIndex(x, "wins(0) of a new river", () -> x.wins(0));
        x.pass(1);
        Checks.due("the ice with the first hour of frost of 2", x.place(11, 2, 0), 32);
        Checks.due("the first hut", x.build(0), 1);
        Checks.due("the first courier", x.come(0, 0, 1, 0, true), 0);
        Checks.due("the first wager", x.wager(0, 1), 0);
    }

    /** "Throws IndexOutOfBoundsException if day is not 0 to 13." */
    private static void setWarmOfNoDay() {
        for (IceLanes x : Checks.rivers()) {
            for (int day : Checks.outside(0, 13)) {
                Checks.dueIndex(x, "setWarm(" + day + ", 0)", () -> x.setWarm(day, 0));
            }
        }
    }

    /** "day: a day of the table, 0 to 13": each is one of its own, the first and the last, too. */
    private static void setWarmOfTheFirstAndTheLastDay() {
        IceLanes x = new IceLanes();
        for (int day = 0; day < 14; day++) {
            Checks.due("setWarm(" + day + ", ..) at first", x.setWarm(day, day - 9), -2);
        }
        for (int day = 0; day < 14; day++) {
            Checks.due("setWarm(" + day + ", ..) again", x.setWarm(day, 0), day - 9);
        }
    }

    /** "Throws IllegalArgumentException if warm is not -9 to 9." */
    private static void setWarmTooWarmOrTooCold() {
        for (IceLanes x : Checks.rivers()) {
            for (int warm : Checks.outside(-9, 9)) {
                Checks.dueArgument(x, "setWarm(0, " + warm + ")", () -> x.setWarm(0, warm));
                Checks.dueArgument(x, "setWarm(13, " + warm + ")", () -> x.setWarm(13, warm));
            }
        }
    }

    private static void setWarmOfTheLeastAndTheMost() {
        IceLanes x = new IceLanes();
        Checks.due("setWarm(13, -9)", x.setWarm(13, -9), -2);
        Checks.due("setWarm(13, 9)", x.setWarm(13, 9), -9);
        Checks.due("setWarm(13, 9) again", x.setWarm(13, 9), 9);
        Checks.due("setWarm(13, 0)", x.setWarm(13, 0), 9);
    }

    private static void setWarmThrowsTheFirst() {
        IceLanes x = Checks.busyRiver();
        for (int day : Checks.outside(0, 13)) {
            for (int warm : Checks.outside(-9, 9)) {
                Checks.dueIndex(x, "setWarm(" + day + ", " + warm + ")", () -> x.setWarm(day, warm));
            }
        }
    }

    /** "Throws IndexOutOfBoundsException if section is not 0 to 11, or lane is not 0 to 2." */
    private static void setIceOfNoPlace() {
        for (IceLanes x : Checks.rivers()) {
            for (int section : Checks.outside(0, 11)) {
                Checks.dueIndex(x, "setIce(" + section + ", 1, 5)", () -> x.setIce(section, 1, 5));
            }
            for (int lane : Checks.outside(0, 2)) {
                for (int section : new int[] {0, 6, 11}) {
                    Checks.dueIndex(x, "setIce(" + section + ", " + lane + ", 5)", () -> x.setIce(section, lane, 5));
                }
            }
        }
    }

    /** "Throws IllegalArgumentException if ice is not 0 to 60." */
    private static void setIceTooThinOrTooThick() {
        for (IceLanes x : Checks.rivers()) {
            for (int ice : Checks.outside(0, 60)) {
                Checks.dueArgument(x, "setIce(0, 0, " + ice + ")", () -> x.setIce(0, 0, ice));
                Checks.dueArgument(x, "setIce(11, 2, " + ice + ")", () -> x.setIce(11, 2, ice));
            }
        }
    }

    private static void setIceOfTheLeastAndTheMost() {
        IceLanes x = new IceLanes();
        for (int lane = 0; lane < 3; lane += 2) {
            for (int section = 0; section < 12; section += 11) {
                Checks.due("setIce(.., 0)", x.setIce(section, lane, 0), 30);
                Checks.due("setIce(.., 60)", x.setIce(section, lane, 60), 0);
                Checks.due("setIce(.., 60) again", x.setIce(section, lane, 60), 60);
                Checks.due("setIce(.., 1)", x.setIce(section, lane, 1), 60);
            }
        }
    }

    private static void setIceThrowsTheFirst() {
        IceLanes x = Checks.busyRiver();
        for (int ice : Checks.outside(0, 60)) {
            Checks.dueIndex(x, "setIce(-1, 0, " + ice + ")", () -> x.setIce(-1, 0, ice));
            Checks.dueIndex(x, "setIce(12, 0, " + ice + ")", () -> x.setIce(12, 0, ice));
            Checks.dueIndex(x, "setIce(0, -1, " + ice + ")", () -> x.setIce(0, -1, ice));
            Checks.dueIndex(x, "setIce(0, 3, " + ice + ")", () -> x.setIce(0, 3, ice));
        }
    }

    /** "Throws IndexOutOfBoundsException if section is not 0 to 11." */
    private static void buildAtNoSection() {
        for (IceLanes x : Checks.rivers()) {
            for (int section : Checks.outside(0, 11)) {
                Checks.dueIndex(x, "build(" + section + ")", () -> x.build(section));
            }
        }
    }

    /** "Returns how many huts there are", from the first to one in each section. */
    private static void buildFromNoneToAll() {
        IceLanes x = new IceLanes();
        Checks.due("huts, none there", x.count(7), 0);
        for (int section = 11; section >= 0; section--) {
            Checks.due("build(" + section + ")", x.build(section), 12 - section);
        }
        Checks.due("huts, all there", x.count(7), 12);
    }

    /** "One that is there already is not built again." */
    private static void buildOnceOnly() {
        for (int section = 0; section < 12; section++) {
            IceLanes x = new IceLanes();
            Checks.due("build(" + section + ")", x.build(section), 1);
            long before = x.digest();
            Checks.due("build(" + section + ") again", x.build(section), 1);
            Checks.due("the digest behind build(" + section + ") again", x.digest(), before);
            IceLanes full = Checks.fullRiver();
            Checks.due("build(" + section + ") with a hut in each section", full.build(section), 12);
        }
    }

    /** "Throws IndexOutOfBoundsException if section is not 0 to 11, lane is not 0 to 2, .." */
    private static void placeThatIsNone() {
        for (IceLanes x : Checks.rivers()) {
            for (int what = 0; what <= 3; what++) {
                int asked = what;
                for (int section : Checks.outside(0, 11)) {
                    Checks.dueIndex(x, "place(" + section + ", 2, " + asked + ")", () -> x.place(section, 2, asked));
                }
                for (int lane : Checks.outside(0, 2)) {
                    Checks.dueIndex(x, "place(0, " + lane + ", " + asked + ")", () -> x.place(0, lane, asked));
                    Checks.dueIndex(x, "place(6, " + lane + ", " + asked + ")", () -> x.place(6, lane, asked));
                    Checks.dueIndex(x, "place(11, " + lane + ", " + asked + ")", () -> x.place(11, lane, asked));
                }
            }
        }
    }

    /** ".. or what is not 0 to 3." */
    private static void placeWithoutSuchAQuestion() {
        for (IceLanes x : Checks.rivers()) {
            for (int what : Checks.outside(0, 3)) {
                Checks.dueIndex(x, "place(0, 0, " + what + ")", () -> x.place(0, 0, what));
                Checks.dueIndex(x, "place(11, 2, " + what + ")", () -> x.place(11, 2, what));
                Checks.dueIndex(x, "place(12, 3, " + what + ")", () -> x.place(12, 3, what));
            }
        }
    }

    private static void placeTellsTheLeastAndTheMostIce() {
        IceLanes x = new IceLanes();
        for (int place = 0; place < 36; place += 35) {
            x.setIce(place / 3, place % 3, 0);
            Checks.due("the least ice", x.place(place / 3, place % 3, 0), 0);
            Checks.due("what the least ice bears", x.place(place / 3, place % 3, 2), 0);
            x.setIce(place / 3, place % 3, 60);
            Checks.due("the most ice", x.place(place / 3, place % 3, 0), 60);
            Checks.due("what the most ice bears", x.place(place / 3, place % 3, 2), 60);
        }
    }

    private static void placeTellsTheLeastAndTheMostCracks() {
        for (int cracks = 0; cracks <= 9; cracks++) {
            IceLanes x = Checks.crackedRiver(cracks);
            Checks.due("place(1, 0, 1)", x.place(1, 0, 1), cracks);
            Checks.due("what it bears with " + cracks + " cracks", x.place(1, 0, 2), 59 - 3 * cracks);
            Checks.due("the cracks of a place beside", x.place(1, 1, 1), 0);
            Checks.due("what a place beside bears", x.place(1, 1, 2), 30);
        }
    }

    /** "2 what it bears at most (ice less 3 * cracks, at least 0)." */
    private static void placeBearsAtLeastNothing() {
        for (int cracks = 1; cracks <= 9; cracks++) {
            IceLanes x = Checks.crackedRiver(cracks);
            int[] ice = {0, 1, 3 * cracks - 1, 3 * cracks, 3 * cracks + 1, 60};
            int[] due = {0, 0, 0, 0, 1, 60 - 3 * cracks};
            for (int i = 0; i < ice.length; i++) {
                x.setIce(1, 0, ice[i]);
                Checks.due("what ice of " + ice[i] + " with " + cracks + " cracks bears", x.place(1, 0, 2), due[i]);
            }
        }
    }

    /** "3 couriers there ..": none yet, and as many as there can be. */
    private static void placeTellsNoCouriersAndEight() {
        IceLanes x = new IceLanes();
        for (int i = 0; i < 8; i++) {
            Checks.due("those at a place", x.place(11, 2, 3), i);
            x.come(11, 2, 1, 0, i % 2 == 0);
        }
        for (int place = 0; place < 35; place++) {
            Checks.due("those at place " + place, x.place(place / 3, place % 3, 3), 0);
        }
        Checks.due("all those at a place", x.place(11, 2, 3), 8);
    }

    /** ".. who are not out": those who rest, go and have arrived are there, one who broke in is not. */
    private static void placeTellsOfNoneWhoIsOut() {
        IceLanes x = Checks.busyRiver();
        for (int courier = 0; courier < 4; courier++) {
            int there = x.place(x.courier(courier, 3), x.courier(courier, 4), 3);
            Checks.due("those at the place of " + courier, there, courier == 2 ? 0 : 1);
        }
    }
}
