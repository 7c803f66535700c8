/** Promises 12 and 13: pass, with what an hour does in its four steps, and count. */
public final class HoursTest {
    public static void main(String[] args) {
        promise12Pass();
        frostOfTheDay();
        frostHealsCracks();
        goingAtAPace();
        lanesThatAreTaken();
        noLaneBesideTheLast();
        noPlaceBears();
        cracksAndBreakingIn();
        mostCracks();
        onesByTheirNumbers();
        eightAtOnce();
        strengthThatRunsOut();
        skaterWhoseStrengthRunsOut();
        restsAtAHut();
        restsAtAHutInEachLane();
        restsUpToTwenty();
        hourOfTheThaw();
        thawOfEachSection();
        thawByABreak();
        promise13Count();
        Checks.end();
    }

    private static void promise12Pass() {
        IceLanes x = Checks.stillRiver();
        for (int i = 0; i < 3; i++) {
            x.come(0, i, 1, 0, false);
            x.send(i, i + 1);
        }
        Checks.due("pass(1)", x.pass(1), 0);
        Checks.due("pass(2)", x.pass(2), 2);
        Checks.due("pass(200)", x.pass(200), 1);
        Checks.due("pass(1) behind all", x.pass(1), 0);
        Checks.due("count(0)", x.count(0), 204);
        x.come(0, 0, 1, 0, true);
        Checks.due("pass(1) with one at the goal", x.pass(1), 0);
        Checks.dueArgument(x, "pass(0)", () -> x.pass(0));
        Checks.dueArgument(x, "pass(-1)", () -> x.pass(-1));
        Checks.dueArgument(x, "pass(201)", () -> x.pass(201));
        Checks.dueArgument(x, "pass(MAX)", () -> x.pass(Integer.MAX_VALUE));
    }

    private static void frostOfTheDay() {
        IceLanes x = Checks.stillRiver();
        x.setWarm(0, -9);
        x.setWarm(1, 9);
        x.setWarm(2, -1);
        x.setWarm(3, 1);
        x.setIce(0, 0, 52);
        x.setIce(0, 1, 51);
        x.setIce(11, 2, 8);
        x.pass(1);
        dueIce(x, "in the first hour", 60, 60, 39, 17);
        x.pass(11);
        dueIce(x, "behind a day", 60, 60, 39, 17);
        x.pass(1);
        dueIce(x, "in warmth of 9", 42, 42, 21, 0);
        x.pass(12);
        dueIce(x, "in frost of 1", 43, 43, 22, 1);
        x.pass(12);
        dueIce(x, "in warmth of 1", 41, 41, 20, 0);
        x.pass(12);
        dueIce(x, "at 0 degrees", 41, 41, 20, 0);
        x.pass(119);
        dueIce(x, "behind 14 days", 41, 41, 20, 0);
        x.pass(1);
        dueIce(x, "on the day 14", 50, 50, 29, 9);
        x.pass(12);
        dueIce(x, "on the day 15", 32, 32, 11, 0);
    }

    private static void dueIce(IceLanes x, String when, int first, int second, int other, int last) {
        Checks.due("the ice of 0, 0 " + when, x.place(0, 0, 0), first);
        Checks.due("the ice of 0, 1 " + when, x.place(0, 1, 0), second);
        Checks.due("the ice of 5, 1 " + when, x.place(5, 1, 0), other);
        Checks.due("the ice of 11, 2 " + when, x.place(11, 2, 0), last);
    }

    private static void frostHealsCracks() {
        IceLanes x = Checks.stillRiver();
        x.setWarm(1, -2);
        x.setWarm(2, -3);
        x.setWarm(3, -9);
        x.setWarm(4, -9);
        for (int i = 0; i < 2; i++) {
            Checks.setSection(x, 1, 30, 0, 0);
            x.come(0, 0, 20, 0, false);
            x.send(i, 1);
        }
        x.pass(12);
        Checks.due("cracks by two sleds", x.place(1, 0, 1), 2);
        x.pass(12);
        Checks.due("cracks in frost of 2", x.place(1, 0, 1), 2);
        x.pass(1);
        Checks.due("cracks in frost of 3", x.place(1, 0, 1), 1);
        x.pass(11);
        Checks.due("cracks behind the day", x.place(1, 0, 1), 1);
        x.pass(1);
        Checks.due("cracks in frost of 9", x.place(1, 0, 1), 0);
        x.pass(12);
        Checks.due("no cracks to heal", x.place(1, 0, 1), 0);
        Checks.due("all cracks", x.count(5), 0);
    }

    private static void goingAtAPace() {
        IceLanes x = Checks.stillRiver();
        x.come(5, 0, 1, 0, false);
        x.come(5, 0, 1, 0, true);
        x.send(0, 2);
        x.send(1, 8);
        x.pass(1);
        dueCourier(x, 0, "behind an hour", 5, 0, 20, 1, 0);
        dueCourier(x, 1, "behind an hour", 5, 0, 20, 1, 0);
        x.pass(1);
        dueCourier(x, 0, "behind 2 hours", 4, 0, 19, 1, 1);
        dueCourier(x, 1, "behind 2 hours", 7, 0, 18, 1, 2);
        x.pass(1);
        dueCourier(x, 0, "behind 3 hours", 3, 0, 18, 1, 2);
        dueCourier(x, 1, "behind 3 hours", 8, 0, 17, 2, 3);
        x.pass(1);
        dueCourier(x, 0, "behind 4 hours", 2, 0, 17, 2, 3);
        dueCourier(x, 1, "behind 4 hours", 8, 0, 17, 2, 3);
    }

    private static void dueCourier(IceLanes x, int courier, String when, int section, int lane, int strength,
            int state, int steps) {
        String of = " of courier " + courier + " " + when;
        Checks.due("the section" + of, x.courier(courier, 3), section);
        Checks.due("the lane" + of, x.courier(courier, 4), lane);
        Checks.due("the strength" + of, x.courier(courier, 2), strength);
        Checks.due("the state" + of, x.courier(courier, 6), state);
        Checks.due("the steps" + of, x.courier(courier, 7), steps);
    }

    private static void lanesThatAreTaken() {
        IceLanes x = Checks.stillRiver();
        x.come(0, 0, 10, 0, false);
        x.send(0, 6);
        Checks.setSection(x, 1, 20, 20, 60);
        Checks.setSection(x, 2, 21, 22, 60);
        Checks.setSection(x, 3, 24, 25, 26);
        Checks.setSection(x, 4, 60, 25, 25);
        Checks.setSection(x, 5, 9, 13, 9);
        Checks.setSection(x, 6, 40, 41, 41);
        x.pass(2);
        Checks.due("the smaller lane of two alike, a lane too far", x.courier(0, 4), 0);
        x.pass(1);
        Checks.due("the lane with more ice", x.courier(0, 4), 1);
        x.pass(1);
        Checks.due("the last lane", x.courier(0, 4), 2);
        x.pass(1);
        Checks.due("from the last lane, the middle one", x.courier(0, 4), 1);
        x.pass(1);
        Checks.due("the only lane that bears", x.courier(0, 4), 1);
        x.pass(1);
        Checks.due("the middle one of two alike", x.courier(0, 4), 1);
        Checks.due("arrived", x.courier(0, 6), 2);
        IceLanes y = Checks.stillRiver();
        y.come(0, 1, 18, 0, false);
        y.come(0, 1, 1, 0, false);
        y.come(0, 1, 1, 0, false);
        Checks.setSection(y, 1, 30, 28, 27);
        y.send(0, 1);
        y.pass(2);
        Checks.due("a crack", y.place(1, 0, 1), 1);
        y.send(1, 1);
        y.pass(2);
        Checks.due("more ice less 3 * cracks", y.courier(1, 4), 1);
        y.setIce(1, 1, 27);
        y.send(2, 1);
        y.pass(2);
        Checks.due("as much ice less 3 * cracks", y.courier(2, 4), 0);
    }

    private static void noLaneBesideTheLast() {
        IceLanes x = Checks.stillRiver();
        x.come(0, 2, 1, 0, false);
        x.come(11, 0, 1, 0, false);
        x.send(0, 2);
        x.send(1, 9);
        Checks.setSection(x, 1, 60, 0, 2);
        Checks.setSection(x, 2, 60, 60, 60);
        Checks.setSection(x, 10, 2, 0, 60);
        Checks.setSection(x, 9, 60, 60, 60);
        x.pass(2);
        dueCourier(x, 0, "along the last lane", 1, 2, 19, 1, 1);
        dueCourier(x, 1, "along the first lane", 10, 0, 19, 1, 1);
        x.pass(1);
        dueCourier(x, 0, "from the last lane", 2, 1, 18, 2, 2);
        dueCourier(x, 1, "from the first lane", 9, 0, 18, 2, 2);
    }

    private static void noPlaceBears() {
        IceLanes x = Checks.stillRiver();
        x.come(0, 0, 10, 5, false);
        x.send(0, 2);
        Checks.setSection(x, 1, 14, 14, 60);
        x.pass(1);
        dueCourier(x, 0, "who will find no way", 0, 0, 20, 1, 0);
        x.pass(3);
        dueCourier(x, 0, "who finds no way", 0, 0, 20, 1, 0);
        x.setIce(1, 1, 15);
        x.pass(1);
        dueCourier(x, 0, "who finds a way and breaks in", 1, 1, 19, 3, 1);
        IceLanes y = Checks.stillRiver();
        y.come(0, 0, 1, 0, true);
        y.send(0, 2);
        Checks.setSection(y, 2, 0, 0, 9);
        y.pass(2);
        dueCourier(y, 0, "whose second step finds no way", 1, 0, 20, 1, 1);
        y.pass(1);
        dueCourier(y, 0, "who rests and goes each hour", 1, 0, 20, 1, 1);
    }

    private static void cracksAndBreakingIn() {
        IceLanes x = stepWith(15, 0);
        Checks.due("cracks under 15 on 30", x.place(1, 0, 1), 0);
        x = stepWith(15, 1);
        Checks.due("cracks under 16 on 30", x.place(1, 0, 1), 1);
        x = stepWith(20, 7);
        Checks.due("cracks under 27 on 30", x.place(1, 0, 1), 1);
        Checks.due("the state under 27 on 30", x.courier(0, 6), 2);
        Checks.due("the ice under 27 on 30", x.place(1, 0, 0), 30);
        Checks.due("the letters under 27 on 30", x.courier(0, 1), 7);
        x = stepWith(20, 8);
        Checks.due("cracks under 28 on 30", x.place(1, 0, 1), 1);
        dueCourier(x, 0, "under 28 on 30", 1, 0, 19, 3, 1);
        Checks.due("the ice under 28 on 30", x.place(1, 0, 0), 0);
        Checks.due("the letters under 28 on 30", x.courier(0, 1), 0);
        Checks.due("what is left of the weight", x.courier(0, 0), 20);
        x.setIce(1, 0, 60);
        x.pass(20);
        dueCourier(x, 0, "who is out", 1, 0, 19, 3, 1);
        Checks.due("arrivals with one who broke in at the goal", x.count(3), 0);
    }

    private static IceLanes stepWith(int weight, int letters) {
        IceLanes x = Checks.stillRiver();
        x.come(0, 0, weight, letters, false);
        x.send(0, 1);
        int arrived = x.pass(2);
        Checks.due("arrivals with " + (weight + letters), arrived, weight + letters <= 27 ? 1 : 0);
        return x;
    }

    private static void mostCracks() {
        IceLanes x = Checks.stillRiver();
        Checks.setSection(x, 0, 60, 0, 0);
        Checks.setSection(x, 1, 60, 0, 0);
        x.come(0, 0, 31, 0, false);
        for (int i = 0; i < 12; i++) {
            x.send(0, 1);
            x.pass(2);
            Checks.due("cracks behind " + (i + 1) + " steps", x.place(1, 0, 1), Math.min(9, i + 1));
            x.send(0, 0);
            x.pass(2);
        }
        Checks.due("the state behind all steps", x.courier(0, 6), 2);
        Checks.due("the steps", x.courier(0, 7), 24);
        Checks.due("all cracks", x.count(5), 18);
        Checks.due("what 60 with 9 cracks bears", x.place(0, 0, 2), 33);
    }

    private static void onesByTheirNumbers() {
        IceLanes x = Checks.stillRiver();
        x.come(0, 0, 26, 0, false);
        x.come(0, 0, 26, 0, false);
        Checks.setSection(x, 1, 28, 27, 60);
        x.send(1, 1);
        x.send(0, 1);
        x.pass(2);
        dueCourier(x, 0, "who goes first", 1, 0, 19, 3, 1);
        dueCourier(x, 1, "who goes next", 1, 1, 19, 3, 1);
        Checks.due("open water", x.count(6), 2);
        Checks.due("the thaw by these", x.count(10), -1);
    }

    private static void eightAtOnce() {
        IceLanes x = Checks.stillRiver();
        for (int i = 0; i < 8; i++) {
            x.come(i, 1, 1, 0, i % 2 == 0);
            x.send(i, i + 4);
        }
        Checks.due("arrivals of skaters", x.pass(3), 4);
        Checks.due("arrivals of sleds", x.pass(2), 4);
        Checks.due("those at 11", x.place(11, 0, 3), 1);
        Checks.due("those who have arrived", x.count(3), 8);
    }

    private static void strengthThatRunsOut() {
        IceLanes x = tiredAtSectionOne(false);
        dueCourier(x, 0, "at its last step", 1, 0, 0, 1, 21);
        x.pass(1);
        dueCourier(x, 0, "without strength", 1, 0, 1, 0, 21);
        x.pass(8);
        dueCourier(x, 0, "with strength of 9", 1, 0, 9, 0, 21);
        x.pass(1);
        dueCourier(x, 0, "with strength of 10", 1, 0, 10, 1, 21);
        x.pass(1);
        dueCourier(x, 0, "at the goal", 0, 0, 9, 2, 22);
    }

    private static void skaterWhoseStrengthRunsOut() {
        IceLanes x = tiredAtSectionOne(true);
        dueCourier(x, 0, "a skater at its last step", 1, 0, 0, 1, 21);
        x.send(0, 11);
        x.pass(10);
        dueCourier(x, 0, "a skater with strength of 10", 1, 0, 10, 1, 21);
        x.pass(1);
        dueCourier(x, 0, "a skater behind 2 steps", 3, 0, 8, 1, 23);
        x.pass(4);
        dueCourier(x, 0, "a skater behind 10 steps", 11, 0, 0, 2, 31);
    }

    private static void restsAtAHut() {
        IceLanes x = tiredAtSectionOne(false);
        x.build(1);
        x.pass(1);
        dueCourier(x, 0, "behind an hour at a hut", 1, 0, 5, 0, 21);
        x.pass(1);
        dueCourier(x, 0, "behind two hours at a hut", 1, 0, 10, 1, 21);
        x.pass(1);
        dueCourier(x, 0, "who went on from a hut", 0, 0, 9, 2, 22);
        IceLanes y = tiredAtSectionOne(false);
        y.build(0);
        y.build(2);
        y.pass(1);
        dueCourier(y, 0, "beside huts", 1, 0, 1, 0, 21);
        y.build(1);
        y.pass(1);
        dueCourier(y, 0, "at a hut built in the rest", 1, 0, 6, 0, 21);
        y.pass(1);
        dueCourier(y, 0, "behind an hour more at it", 1, 0, 11, 1, 21);
    }

    private static void restsAtAHutInEachLane() {
        for (int lane = 0; lane < 3; lane++) {
            IceLanes x = Checks.stillRiver();
            for (int section = 0; section <= 7; section++) {
                Checks.setSection(x, section, lane == 0 ? 30 : 0, lane == 1 ? 30 : 0, lane == 2 ? 30 : 0);
            }
            x.build(7);
            for (int courier = 0; courier < 2; courier++) {
                x.come(0, lane, 1, 0, courier == 1);
                x.send(courier, 7);
            }
            x.pass(8);
            x.send(0, 7);
            x.pass(1);
            dueCourier(x, 0, "who rests at a hut in lane " + lane, 7, lane, 18, 0, 7);
            dueCourier(x, 1, "who has arrived at a hut in lane " + lane, 7, lane, 13, 2, 7);
        }
    }

    private static void restsUpToTwenty() {
        dueRestAtAHut(4, 16, 20);
        dueRestAtAHut(5, 15, 20);
        dueRestAtAHut(6, 14, 19);
        dueRestAtAHut(9, 11, 16);
    }

    /** The strength behind a way of so many steps, and behind an hour of rest at the hut at its end. */
    private static void dueRestAtAHut(int steps, int arrived, int rested) {
        IceLanes x = Checks.stillRiver();
        x.build(steps);
        x.come(0, 0, 1, 0, false);
        x.send(0, steps);
        x.pass(steps + 3);
        dueCourier(x, 0, "who has arrived at a hut", steps, 0, arrived, 2, steps);
        x.send(0, steps);
        x.pass(1);
        dueCourier(x, 0, "who rests at a hut", steps, 0, rested, 0, steps);
        x.pass(3);
        dueCourier(x, 0, "who rests on at a hut", steps, 0, 20, 0, steps);
    }

    /** A courier, number 0, goes from 0 to 11 and back to 0, and has no strength left at 1. */
    private static IceLanes tiredAtSectionOne(boolean skates) {
        IceLanes x = Checks.stillRiver();
        x.come(0, 0, 1, 0, skates);
        x.send(0, 11);
        x.pass(skates ? 7 : 12);
        Checks.due("the strength at 11", x.courier(0, 2), 9);
        x.send(0, 0);
        x.pass(skates ? 6 : 11);
        return x;
    }

    private static void hourOfTheThaw() {
        IceLanes x = Checks.stillRiver();
        Checks.setSection(x, 11, 0, 0, 0);
        x.setWarm(0, -1);
        x.pass(1);
        Checks.due("the thaw in frost", x.count(10), -1);
        Checks.setSection(x, 11, 0, 1, 0);
        Checks.setSection(x, 10, 1, 0, 0);
        Checks.setSection(x, 9, 0, 0, 1);
        x.pass(1);
        Checks.due("the thaw with a lane of ice", x.count(10), -1);
        x.setIce(11, 1, 0);
        x.setIce(11, 1, 1);
        x.pass(10);
        Checks.due("the thaw behind a day", x.count(10), -1);
        x.setWarm(1, 1);
        x.pass(1);
        Checks.due("the thaw in warmth", x.count(10), 1);
        x.pass(100);
        Checks.due("the thaw is told once", x.count(10), 1);
    }

    private static void thawOfEachSection() {
        for (int section = 0; section < 12; section++) {
            IceLanes x = Checks.stillRiver();
            Checks.setSection(x, section, 0, 0, 0);
            Checks.due("open water", x.count(6), 3);
            x.pass(1);
            Checks.due("the thaw by section " + section, x.count(10), 0);
        }
    }

    private static void thawByABreak() {
        IceLanes x = Checks.stillRiver();
        x.come(0, 0, 20, 0, false);
        x.send(0, 1);
        Checks.setSection(x, 1, 22, 0, 0);
        x.pass(1);
        x.send(0, 0);
        x.pass(9);
        x.send(0, 1);
        x.pass(2);
        Checks.due("one broke in", x.courier(0, 6), 3);
        Checks.due("the hour", x.count(0), 12);
        Checks.due("the thaw in the hour of the break", x.count(10), -1);
        x.pass(1);
        Checks.due("the thaw in the hour behind the break", x.count(10), 1);
    }

    private static void promise13Count() {
        IceLanes x = Checks.stillRiver();
        x.come(0, 0, 20, 8, false);
        x.come(0, 0, 1, 0, false);
        x.come(0, 0, 1, 0, true);
        x.come(0, 0, 1, 0, true);
        x.come(0, 0, 16, 0, true);
        x.send(0, 4);
        x.send(1, 1);
        x.send(2, 11);
        x.send(4, 11);
        x.build(4);
        x.wager(7, 10);
        x.wager(8, 20);
        Checks.setSection(x, 9, 0, 3, 0);
        x.pass(2);
        long[] due = {2, 5, 2, 1, 1, 3, 3, 1, 2, 30, -1};
        for (int what = 0; what <= 10; what++) {
            Checks.due("count(" + what + ")", x.count(what), due[what]);
        }
        x.setIce(9, 1, 0);
        x.pass(11);
        Checks.due("count(10) of a thaw", x.count(10), 0);
        Checks.dueIndex(x, "count(-1)", () -> x.count(-1));
        Checks.dueIndex(x, "count(11)", () -> x.count(11));
        Checks.dueIndex(x, "count(MIN)", () -> x.count(Integer.MIN_VALUE));
    }
}
