/** Each sentence that names an edge of what an hour does, in the order of its four steps, and of the thaw. */
public final class HourEdgesTest {
    public static void main(String[] args) {
        frostInTheFirstHourOfADay();
        frostOfEachDegree();
        frostUpToSixty();
        warmthDownToNothing();
        frostThatHeals();
        frostHealsEachPlace();
        frostHealsDownToNone();
        frostComesAheadOfTheSteps();
        couriersGoByNumbers();
        skaterStopsAtTheGoal();
        skaterStopsWhereOneBreaksIn();
        skaterStopsWhereNoPlaceBears();
        strengthOfOneIsEnoughForAStep();
        strengthOfNoneIsNot();
        stepsUpAndDownToTheLastSections();
        laneOfTheFirstOne();
        laneOfTheMiddleOne();
        laneOfTheLastOne();
        laneByIceLessCracks();
        placeThatJustBears();
        noPlaceBears();
        crackBelowTwiceTheLoad();
        cracksThatAreThereCount();
        atMostNineCracks();
        oneWhoBrokeInIsOut();
        restGivesOneUpToTwenty();
        restSinceThisHour();
        restAtAHutUpToTwenty();
        noStrengthForThoseWhoDoNotRest();
        tenIsEnoughToGo();
        noneGoesAtItsGoal();
        thawOfTheFirstAndTheLastSection();
        thawNeedsAllThreeLanes();
        thawBehindTheFrostOfTheHour();
        thawAheadOfTheStepsOfTheHour();
        thawOnTheDayOfItsHour();
        thawComesOnce();
        Checks.end();
    }

    /** "If it is the first one of a day (the hour by the remainder of 12 is 0)." */
    private static void frostInTheFirstHourOfADay() {
        IceLanes x = Checks.stillRiver();
        for (int day = 0; day < 14; day++) {
            x.setWarm(day, -1);
        }
        for (int hour = 0; hour < 37; hour++) {
            x.pass(1);
            Checks.due("the ice behind the hour " + hour, x.place(5, 1, 0), 31 + hour / 12);
        }
    }

    /** "As much more ice as it is degrees below 0, or twice as many less as it is degrees above 0." */
    private static void frostOfEachDegree() {
        for (int warm = -9; warm <= 9; warm++) {
            IceLanes x = Checks.stillRiver();
            x.setWarm(0, warm);
            x.pass(1);
            int due = warm < 0 ? 30 - warm : 30 - 2 * warm;
            for (int place = 0; place < 36; place++) {
                Checks.due("the ice of place " + place + " at " + warm, x.place(place / 3, place % 3, 0), due);
            }
        }
    }

    /** "(0 to 60)." */
    private static void frostUpToSixty() {
        for (int frost = 1; frost <= 9; frost++) {
            IceLanes x = Checks.stillRiver();
            x.setWarm(0, -frost);
            Checks.setSection(x, 0, 60 - frost, 61 - frost, 59 - frost);
            Checks.setSection(x, 11, 60, 0, 59);
            x.pass(1);
            int[] due = {60, 60, 59, 60, frost, 60};
            for (int i = 0; i < 6; i++) {
                Checks.due("ice in frost of " + frost, x.place(i < 3 ? 0 : 11, i % 3, 0), due[i]);
            }
        }
    }

    private static void warmthDownToNothing() {
        for (int warm = 1; warm <= 9; warm++) {
            IceLanes x = Checks.stillRiver();
            x.setWarm(0, warm);
            Checks.setSection(x, 0, 2 * warm, 2 * warm - 1, 2 * warm + 1);
            Checks.setSection(x, 11, 0, 1, 60);
            x.pass(1);
            int[] due = {0, 0, 1, 0, 0, 60 - 2 * warm};
            for (int i = 0; i < 6; i++) {
                Checks.due("ice in warmth of " + warm, x.place(i < 3 ? 0 : 11, i % 3, 0), due[i]);
            }
        }
    }

    /** "With frost of 3 or more each place has a crack less": a single one, and in the day's first hour alone. */
    private static void frostThatHeals() {
        for (int warm = -9; warm <= 9; warm++) {
            IceLanes x = Checks.crackedRiver(2);
            x.setWarm(0, -9);
            x.setWarm(1, warm);
            x.pass(4);
            Checks.due("the hour", x.count(0), 12);
            Checks.due("cracks ahead of the hour", x.place(1, 0, 1), 2);
            x.pass(1);
            Checks.due("cracks at " + warm, x.place(1, 0, 1), warm <= -3 ? 1 : 2);
            x.pass(11);
            Checks.due("cracks at the end of the day at " + warm, x.place(1, 0, 1), warm <= -3 ? 1 : 2);
        }
    }

    private static void frostHealsEachPlace() {
        IceLanes x = Checks.crackedRiver(1);
        x.setIce(0, 0, 59);
        x.send(0, 1);
        x.pass(2);
        x.send(0, 0);
        x.pass(2);
        Checks.due("cracks at 0, 0", x.place(0, 0, 1), 1);
        Checks.due("cracks at 1, 0", x.place(1, 0, 1), 2);
        x.setWarm(1, -3);
        x.pass(5);
        Checks.due("cracks at 0, 0 in frost of 3", x.place(0, 0, 1), 0);
        Checks.due("cracks at 1, 0 in frost of 3", x.place(1, 0, 1), 1);
        Checks.due("all cracks in frost of 3", x.count(5), 1);
    }

    /** "(at least 0)." */
    private static void frostHealsDownToNone() {
        IceLanes x = Checks.crackedRiver(1);
        for (int day = 1; day < 14; day++) {
            x.setWarm(day, -3);
        }
        x.pass(9);
        Checks.due("the last crack heals", x.place(1, 0, 1), 0);
        Checks.due("the hour", x.count(0), 13);
        x.pass(12);
        Checks.due("no crack heals", x.place(1, 0, 1), 0);
        Checks.due("all cracks", x.count(5), 0);
        x.setIce(1, 0, 40);
        Checks.due("what the place bears", x.place(1, 0, 2), 40);
    }

    /** Steps 1 and 2 in their order: the ice of this hour's frost or warmth bears, and heals, ahead of each step. */
    private static void frostComesAheadOfTheSteps() {
        IceLanes x = lastHourAheadOfADay(9, -4);
        Checks.due("arrivals on ice of this hour", x.pass(1), 1);
        Checks.due("the ice of this hour", x.place(1, 0, 0), 13);
        Checks.due("the crack of this hour", x.place(1, 0, 1), 1);
        IceLanes y = lastHourAheadOfADay(13, 2);
        Checks.due("arrivals on ice that melted in this hour", y.pass(1), 0);
        Checks.due("the steps", y.courier(0, 7), 0);
        Checks.due("the cracks", y.place(1, 0, 1), 0);
    }

    /** At the hour 12, with a sled of 10 that goes from 0 to 1, and this ice in the only lane there. */
    private static IceLanes lastHourAheadOfADay(int ice, int warm) {
        IceLanes x = Checks.stillRiver();
        x.setWarm(1, warm);
        x.pass(11);
        x.come(0, 0, 10, 0, false);
        x.send(0, 1);
        Checks.setSection(x, 1, ice, 0, 0);
        x.pass(1);
        Checks.due("one goes ahead of the day", x.courier(0, 6), 1);
        return x;
    }

    /** "Couriers who go, by numbers": not by the order in which they were sent. */
    private static void couriersGoByNumbers() {
        IceLanes x = Checks.stillRiver();
        Checks.setSection(x, 1, 9, 0, 0);
        for (int i = 0; i < 8; i++) {
            x.come(0, 0, 5, 0, false);
        }
        for (int i = 7; i >= 0; i--) {
            x.send(i, 1);
        }
        Checks.due("arrivals", x.pass(2), 1);
        int[] states = {2, 3, 1, 1, 1, 1, 1, 1};
        for (int i = 0; i < 8; i++) {
            Checks.due("the state of " + i, x.courier(i, 6), states[i]);
            Checks.due("the steps of " + i, x.courier(i, 7), i < 2 ? 1 : 0);
            Checks.due("the strength of " + i, x.courier(i, 2), i < 2 ? 19 : 20);
        }
    }

    /** "As many steps as the pace, as long as one goes": not on from the goal. */
    private static void skaterStopsAtTheGoal() {
        for (int goal = 1; goal <= 11; goal++) {
            IceLanes x = Checks.stillRiver();
            x.come(0, 0, 1, 0, true);
            x.come(0, 0, 1, 0, false);
            x.send(0, goal);
            x.send(1, goal);
            Checks.due("arrives(0) at " + goal, x.arrives(0), 1 + (goal + 1) / 2);
            Checks.due("arrives(1) at " + goal, x.arrives(1), 1 + goal);
            Checks.due("arrivals at " + goal, x.pass(30), 2);
            for (int i = 0; i < 2; i++) {
                Checks.due("the section of " + i, x.courier(i, 3), goal);
                Checks.due("the steps of " + i, x.courier(i, 7), goal);
                Checks.due("the strength of " + i, x.courier(i, 2), 20 - goal);
            }
        }
    }

    private static void skaterStopsWhereOneBreaksIn() {
        IceLanes x = Checks.stillRiver();
        x.come(0, 0, 20, 8, true);
        x.send(0, 2);
        Checks.setSection(x, 2, 60, 60, 60);
        Checks.due("arrivals", x.pass(2), 0);
        dueCourier(x, "a skater who breaks in at the first step", 20, 0, 19, 1, 0, 2, 3, 1, 1);
    }

    /** "If none bears it, one rests": also behind the first of two steps. */
    private static void skaterStopsWhereNoPlaceBears() {
        IceLanes x = Checks.stillRiver();
        x.come(0, 0, 1, 0, true);
        x.send(0, 4);
        Checks.setSection(x, 2, 0, 0, 0);
        x.pass(2);
        dueCourier(x, "a skater who finds no second place", 1, 0, 20, 1, 0, 4, 1, 1, 1);
        Checks.setSection(x, 2, 1, 2, 0);
        x.pass(1);
        dueCourier(x, "a skater who goes on", 1, 0, 18, 3, 0, 4, 1, 3, 1);
    }

    /** "Each step costs 1 of strength", from 20 down to the last. */
    private static void strengthOfOneIsEnoughForAStep() {
        for (int skates = 0; skates < 2; skates++) {
            IceLanes x = tired(skates == 1, 1);
            dueCourier(x, "at the goal with no strength left", 1, 0, 0, 1, 0, 1, 2, 21, skates);
        }
    }

    /** "With a strength of 0 one rests from now on"; "(also since this hour)". */
    private static void strengthOfNoneIsNot() {
        for (int skates = 0; skates < 2; skates++) {
            IceLanes x = tired(skates == 1, 0);
            dueCourier(x, "a section before the goal", 1, 0, 0, 1, 0, 0, 1, 21, skates);
            x.pass(1);
            dueCourier(x, "without strength", 1, 0, 1, 1, 0, 0, 0, 21, skates);
            x.pass(8);
            dueCourier(x, "with strength of 9", 1, 0, 9, 1, 0, 0, 0, 21, skates);
            x.pass(1);
            dueCourier(x, "with strength of 10", 1, 0, 10, 1, 0, 0, 1, 21, skates);
            Checks.due("arrivals", x.pass(1), 1);
            dueCourier(x, "at the goal", 1, 0, 9, 0, 0, 0, 2, 22, skates);
        }
    }

    /** "The next section towards the goal", up to 11 and down to 0. */
    private static void stepsUpAndDownToTheLastSections() {
        IceLanes x = Checks.stillRiver();
        x.come(10, 0, 1, 0, false);
        x.come(1, 0, 1, 0, false);
        x.send(0, 11);
        x.send(1, 0);
        Checks.due("arrivals", x.pass(2), 2);
        dueCourier(x, "at the last section", 1, 0, 19, 11, 0, 11, 2, 1, 0);
        Checks.due("the first section", x.courier(1, 3), 0);
    }

    /** "At the lane of the same number and those one beside it": from lane 0, not 2. */
    private static void laneOfTheFirstOne() {
        dueLane(0, 0, 60, 60, 60);
        dueLane(0, 0, 20, 20, 60);
        dueLane(0, 0, 21, 20, 60);
        dueLane(0, 1, 20, 21, 60);
        dueLane(0, 1, 9, 10, 60);
        dueLane(0, 0, 10, 9, 60);
        dueLane(0, -1, 9, 9, 60);
        dueLane(0, -1, 0, 0, 60);
    }

    /** "One goes to that with the most ice less 3 * cracks, of several the lane with the smallest number." */
    private static void laneOfTheMiddleOne() {
        dueLane(1, 0, 60, 60, 60);
        dueLane(1, 0, 20, 20, 20);
        dueLane(1, 1, 20, 21, 21);
        dueLane(1, 0, 21, 20, 21);
        dueLane(1, 0, 21, 21, 20);
        dueLane(1, 2, 20, 20, 21);
        dueLane(1, 0, 10, 9, 9);
        dueLane(1, 1, 9, 10, 9);
        dueLane(1, 2, 9, 9, 10);
        dueLane(1, -1, 9, 9, 9);
    }

    private static void laneOfTheLastOne() {
        dueLane(2, 1, 60, 60, 60);
        dueLane(2, 1, 60, 20, 20);
        dueLane(2, 1, 60, 21, 20);
        dueLane(2, 2, 60, 20, 21);
        dueLane(2, 2, 60, 9, 10);
        dueLane(2, 1, 60, 10, 9);
        dueLane(2, -1, 60, 9, 9);
    }

    /** Where a sled with 10 in all goes from this lane, up and down the river, onto these; -1 if nowhere. */
    private static void dueLane(int lane, int due, int left, int middle, int right) {
        for (int goal = 4; goal <= 6; goal += 2) {
            for (int letters = 0; letters <= 9; letters += 9) {
                IceLanes x = Checks.stillRiver();
                Checks.setSection(x, goal, left, middle, right);
                x.come(5, lane, 10 - letters, letters, false);
                x.send(0, goal);
                x.pass(2);
                String of = " from " + lane + " onto " + left + ", " + middle + ", " + right;
                Checks.due("the steps" + of, x.courier(0, 7), due == -1 ? 0 : 1);
                Checks.due("the lane" + of, x.courier(0, 4), due == -1 ? lane : due);
                Checks.due("the section" + of, x.courier(0, 3), due == -1 ? 5 : goal);
            }
        }
    }

    private static void laneByIceLessCracks() {
        for (int cracks = 0; cracks <= 9; cracks++) {
            int[] more = {-1, 0, 1};
            int[] due = {1, 0, 0};
            for (int i = 0; i < 3; i++) {
                IceLanes x = Checks.crackedRiver(cracks);
                Checks.setSection(x, 1, 21 + 3 * cracks + more[i], 21, 0);
                x.come(0, 0, 10, 0, false);
                x.send(1, 1);
                x.pass(2);
                Checks.due("the lane with " + cracks + " cracks and " + more[i] + " more", x.courier(1, 4), due[i]);
            }
        }
    }

    /** "Of those places that bear the own weight and the letters (added)": ice of as much bears, of one less not. */
    private static void placeThatJustBears() {
        int[][] loads = {{1, 0}, {1, 1}, {1, 20}, {10, 5}, {40, 0}, {40, 19}, {40, 20}};
        for (int[] load : loads) {
            for (int less = 0; less < 2; less++) {
                IceLanes x = Checks.stillRiver();
                x.setIce(0, 0, 60);
                Checks.setSection(x, 1, load[0] + load[1] - less, 0, 0);
                x.come(0, 0, load[0], load[1], false);
                x.send(0, 1);
                x.pass(2);
                Checks.due("the steps onto ice of " + less + " less", x.courier(0, 7), 1 - less);
                Checks.due("the state on ice of " + less + " less", x.courier(0, 6), less == 1 ? 1 : 3);
            }
        }
    }

    /** One who finds no place stays as before, and looks again in the next hour. */
    private static void noPlaceBears() {
        IceLanes x = Checks.stillRiver();
        x.come(0, 1, 10, 5, false);
        x.send(0, 1);
        Checks.setSection(x, 1, 14, 14, 14);
        Checks.due("arrivals", x.pass(200), 0);
        dueCourier(x, "who finds no place", 10, 5, 20, 0, 1, 1, 1, 0, 0);
        Checks.due("cracks", x.count(5), 0);
        x.setIce(1, 2, 30);
        Checks.due("arrivals on thicker ice", x.pass(1), 1);
    }

    /**
     * "Gets a crack, if its ice less 3 * cracks was less than 2 * (the weight and the letters, added); if it does not
     * bear these then, one breaks in."
     */
    private static void crackBelowTwiceTheLoad() {
        dueStep(1, 0, 2, 0, 2);
        dueStep(1, 0, 1, 1, 3);
        dueStep(3, 0, 6, 0, 2);
        dueStep(3, 0, 5, 1, 3);
        dueStep(4, 0, 8, 0, 2);
        dueStep(4, 0, 7, 1, 2);
        dueStep(4, 0, 6, 1, 3);
        dueStep(2, 2, 8, 0, 2);
        dueStep(2, 2, 7, 1, 2);
        dueStep(2, 2, 6, 1, 3);
        dueStep(30, 0, 60, 0, 2);
        dueStep(30, 0, 59, 1, 2);
        dueStep(10, 20, 60, 0, 2);
        dueStep(10, 20, 59, 1, 2);
        dueStep(11, 20, 60, 1, 2);
        dueStep(40, 0, 43, 1, 2);
        dueStep(40, 0, 42, 1, 3);
        dueStep(40, 17, 60, 1, 2);
        dueStep(40, 18, 60, 1, 3);
        dueStep(40, 20, 60, 1, 3);
    }

    /** A step to the goal onto a place with this ice and no cracks: the cracks, and 2 arrived or 3 broke in. */
    private static void dueStep(int weight, int letters, int ice, int cracks, int state) {
        IceLanes x = Checks.stillRiver();
        x.setIce(0, 0, 60);
        Checks.setSection(x, 1, ice, 0, 0);
        x.come(0, 0, weight, letters, false);
        x.send(0, 1);
        boolean stands = state == 2;
        String of = " of " + weight + " and " + letters + " on " + ice;
        Checks.due("arrivals" + of, x.pass(2), stands ? 1 : 0);
        dueCourier(x, of, weight, stands ? letters : 0, 19, 1, 0, 1, state, 1, 0);
        Checks.due("the cracks" + of, x.place(1, 0, 1), cracks);
        Checks.due("the ice" + of, x.place(1, 0, 0), stands ? ice : 0);
        Checks.due("those there" + of, x.place(1, 0, 3), stands ? 1 : 0);
    }

    private static void cracksThatAreThereCount() {
        for (int cracks = 0; cracks <= 8; cracks++) {
            dueStepOnCracks(cracks, 20, cracks, 2);
            dueStepOnCracks(cracks, 19, cracks + 1, 2);
            dueStepOnCracks(cracks, 13, cracks + 1, 2);
            dueStepOnCracks(cracks, 12, cracks + 1, 3);
            dueStepOnCracks(cracks, 10, cracks + 1, 3);
        }
    }

    /** "(at most 9)": with as many there is no more, and so what bore one bears one still. */
    private static void atMostNineCracks() {
        dueStepOnCracks(9, 20, 9, 2);
        dueStepOnCracks(9, 19, 9, 2);
        dueStepOnCracks(9, 12, 9, 2);
        dueStepOnCracks(9, 10, 9, 2);
    }

    /** A step of a sled of 10 onto a place with cracks that bears this just ahead: the cracks and the state then. */
    private static void dueStepOnCracks(int cracks, int bears, int crackedThen, int state) {
        IceLanes x = Checks.crackedRiver(cracks);
        Checks.setSection(x, 1, bears + 3 * cracks, 0, 0);
        x.come(0, 0, 10, 0, false);
        x.send(1, 1);
        x.pass(2);
        String of = " of 10 onto " + cracks + " cracks that bear " + bears;
        Checks.due("the steps" + of, x.courier(1, 7), 1);
        Checks.due("the state" + of, x.courier(1, 6), state);
        Checks.due("the cracks" + of, x.place(1, 0, 1), crackedThen);
        Checks.due("the ice" + of, x.place(1, 0, 0), state == 3 ? 0 : bears + 3 * cracks);
    }

    /** "One is out, the letters are lost (0), and the ice there is 0. Otherwise .. one has arrived." */
    private static void oneWhoBrokeInIsOut() {
        for (int goal = 1; goal <= 2; goal++) {
            IceLanes x = Checks.stillRiver();
            x.build(1);
            x.come(0, 0, 20, 8, false);
            x.send(0, goal);
            Checks.due("arrivals", x.pass(2), 0);
            Checks.due("the ice", x.place(1, 0, 0), 0);
            Checks.due("the ice beside", x.place(1, 1, 0), 30);
            Checks.due("the cracks", x.place(1, 0, 1), 1);
            for (int lane = 0; lane < 3; lane++) {
                x.setIce(1, lane, 60);
            }
            Checks.due("arrivals later", x.pass(200), 0);
            dueCourier(x, "who is out", 20, 0, 19, 1, 0, goal, 3, 1, 0);
            Checks.due("those there", x.place(1, 0, 3), 0);
        }
    }

    /** "1 more of strength .. (at most 20 in all)." */
    private static void restGivesOneUpToTwenty() {
        IceLanes x = tired(false, 1);
        dueCourier(x, "at the goal", 1, 0, 0, 1, 0, 1, 2, 21, 0);
        x.send(0, 1);
        for (int hours = 1; hours <= 23; hours++) {
            x.pass(1);
            Checks.due("the strength behind " + hours + " hours of rest", x.courier(0, 2), Math.min(20, hours));
        }
    }

    /** "Couriers who rest (also since this hour)": one who found no place has 1 more at once, and goes on. */
    private static void restSinceThisHour() {
        IceLanes x = Checks.stillRiver();
        x.come(0, 0, 1, 0, false);
        x.send(0, 11);
        Checks.setSection(x, 6, 0, 0, 0);
        x.pass(6);
        dueCourier(x, "ahead of open water", 1, 0, 15, 5, 0, 11, 1, 5, 0);
        x.pass(1);
        dueCourier(x, "who rests since this hour", 1, 0, 16, 5, 0, 11, 1, 5, 0);
        x.build(5);
        x.pass(1);
        dueCourier(x, "who rests since this hour at a hut", 1, 0, 20, 5, 0, 11, 1, 5, 0);
    }

    /** "With a hut at their section 4 more (at most 20 in all)." */
    private static void restAtAHutUpToTwenty() {
        int[] due = {5, 10, 15, 20, 20};
        for (int before = 0; before <= 20; before++) {
            IceLanes x = tired(false, 1);
            x.send(0, 1);
            if (before > 0) {
                x.pass(before);
            }
            Checks.due("the strength ahead of the hut", x.courier(0, 2), before);
            x.build(1);
            x.pass(1);
            Checks.due("the strength of " + before + " behind the hut", x.courier(0, 2), Math.min(20, before + 5));
        }
        IceLanes x = tired(false, 1);
        x.build(1);
        x.send(0, 1);
        for (int hours = 0; hours < 5; hours++) {
            x.pass(1);
            Checks.due("the strength behind hours at a hut", x.courier(0, 2), due[hours]);
        }
    }

    private static void noStrengthForThoseWhoDoNotRest() {
        IceLanes x = Checks.stillRiver();
        for (int section = 0; section < 12; section++) {
            x.build(section);
        }
        x.come(0, 0, 1, 0, false);
        x.send(0, 5);
        for (int steps = 0; steps <= 5; steps++) {
            x.pass(1);
            Checks.due("the strength of one who goes by huts", x.courier(0, 2), 20 - steps);
        }
        x.pass(50);
        Checks.due("the strength of one who has arrived at a hut", x.courier(0, 2), 15);
    }

    /** "One whose goal is another section, and who has 10 or more of strength, goes from now on." */
    private static void tenIsEnoughToGo() {
        IceLanes x = tired(false, 1);
        x.send(0, 2);
        x.pass(9);
        dueCourier(x, "with strength of 9", 1, 0, 9, 1, 0, 2, 0, 21, 0);
        x.pass(1);
        dueCourier(x, "with strength of 10", 1, 0, 10, 1, 0, 2, 1, 21, 0);
        IceLanes y = tired(false, 1);
        y.send(0, 2);
        y.pass(4);
        y.build(1);
        y.pass(1);
        dueCourier(y, "with strength of 9 by a hut", 1, 0, 9, 1, 0, 2, 0, 21, 0);
        y.pass(1);
        dueCourier(y, "with strength of 14 by a hut", 1, 0, 14, 1, 0, 2, 1, 21, 0);
    }

    private static void noneGoesAtItsGoal() {
        IceLanes x = Checks.stillRiver();
        for (int section = 0; section < 12; section += 11) {
            x.come(section, 1, 1, 0, section == 0);
        }
        for (int hours = 1; hours <= 3; hours++) {
            Checks.due("arrivals", x.pass(1), 0);
            Checks.due("those who go", x.count(2), 0);
            Checks.due("those who have arrived", x.count(3), 0);
        }
    }

    /** "Some section has open water in all three lanes." */
    private static void thawOfTheFirstAndTheLastSection() {
        for (int section = 0; section < 12; section++) {
            IceLanes x = Checks.stillRiver();
            Checks.setSection(x, section, 0, 0, 0);
            Checks.due("the thaw ahead of the hour", x.count(10), -1);
            x.pass(1);
            Checks.due("the thaw by section " + section, x.count(10), 0);
        }
    }

    private static void thawNeedsAllThreeLanes() {
        for (int lane = 0; lane < 3; lane++) {
            IceLanes x = Checks.stillRiver();
            for (int section = 0; section < 12; section++) {
                Checks.setSection(x, section, 0, 0, 0);
                x.setIce(section, lane, 1);
            }
            x.setIce(5, lane, 0);
            x.setIce(5, (lane + 1) % 3, 1);
            x.pass(200);
            Checks.due("the thaw with ice of 1 in each section", x.count(10), -1);
            x.setIce(5, (lane + 1) % 3, 0);
            x.pass(1);
            Checks.due("the thaw without", x.count(10), 16);
        }
    }

    /** "In the first hour in which, behind step 1": water that freezes in it is none, ice that melts in it is. */
    private static void thawBehindTheFrostOfTheHour() {
        IceLanes x = Checks.stillRiver();
        x.setWarm(0, -1);
        Checks.setSection(x, 5, 0, 0, 0);
        x.pass(12);
        Checks.due("the thaw of water that freezes", x.count(10), -1);
        IceLanes y = Checks.stillRiver();
        y.setWarm(0, 9);
        Checks.setSection(y, 5, 18, 17, 19);
        y.pass(12);
        Checks.due("the thaw with ice of 1 left", y.count(10), -1);
        IceLanes z = Checks.stillRiver();
        z.setWarm(0, 9);
        Checks.setSection(z, 5, 18, 17, 1);
        z.pass(1);
        Checks.due("the thaw of ice that melts", z.count(10), 0);
    }

    /** Behind step 1, and so ahead of step 2: where one breaks in, the next hour's frost may close the water. */
    private static void thawAheadOfTheStepsOfTheHour() {
        int[] warm = {0, -1};
        int[] due = {1, -1};
        for (int i = 0; i < 2; i++) {
            IceLanes x = Checks.stillRiver();
            x.setWarm(1, warm[i]);
            x.pass(10);
            x.come(0, 0, 20, 0, false);
            x.send(0, 1);
            Checks.setSection(x, 1, 22, 0, 0);
            x.pass(2);
            Checks.due("one broke in", x.courier(0, 6), 3);
            Checks.due("open water", x.count(6), 3);
            Checks.due("the thaw in the hour 11", x.count(10), -1);
            Checks.due("the wager behind it", x.wager(1, 1), 0);
            x.pass(12);
            Checks.due("the thaw with warmth of " + warm[i], x.count(10), due[i]);
        }
    }

    /** "Its day is that of this hour": the hour 11 is on the day 0, the hour 12 on the day 1. */
    private static void thawOnTheDayOfItsHour() {
        int[] hours = {1, 11, 12, 13, 23, 24, 167, 168, 6000};
        for (int hour : hours) {
            IceLanes x = Checks.stillRiver();
            Checks.passLong(x, hour);
            Checks.setSection(x, 5, 0, 0, 0);
            x.pass(1);
            Checks.due("the thaw in the hour " + hour, x.count(10), hour / 12);
        }
    }

    private static void thawComesOnce() {
        IceLanes x = Checks.stillRiver();
        Checks.setSection(x, 5, 0, 0, 0);
        x.pass(13);
        Checks.due("the thaw with water for 13 hours", x.count(10), 0);
        Checks.setSection(x, 5, 60, 60, 60);
        x.pass(12);
        Checks.setSection(x, 7, 0, 0, 0);
        x.pass(1);
        Checks.due("the thaw with other water", x.count(10), 0);
        Checks.due("thaw()", x.thaw(), 0);
    }

    /** Courier number 0 has gone from 0 to 11, and with strength of 10 to 1, which is its goal or a step from it. */
    private static IceLanes tired(boolean skates, int goal) {
        IceLanes x = Checks.stillRiver();
        x.come(0, 0, 1, 0, skates);
        x.send(0, 11);
        x.pass(skates ? 7 : 12);
        Checks.due("the strength at 11", x.courier(0, 2), 9);
        x.send(0, goal);
        x.pass(skates ? 6 : 11);
        Checks.due("the strength at 1", x.courier(0, 2), 0);
        return x;
    }

    private static void dueCourier(IceLanes x, String who, long... due) {
        for (int what = 0; what <= 8; what++) {
            Checks.due("courier(0, " + what + ") " + who, x.courier(0, what), due[what]);
        }
    }
}
