import java.math.BigInteger;

/** Each sentence that names an edge of promises 14 to 19. */
public final class WouldBeEdgesTest {
    public static void main(String[] args) {
        bearsFromOrToNoSection();
        bearsOfTheSameSection();
        bearsFromEndToEnd();
        bearsTheWeakestOfTheWay();
        bearsAtMostOneLaneToTheSide();
        bearsAtLeastNothing();
        bearsWithCracks();
        arrivesOfNoCourier();
        arrivesAtTheGoalNow();
        arrivesBehindAnHourAndMore();
        arrivesFromEachLane();
        arrivesBehindRests();
        arrivesAtMost150();
        arrivesNever();
        arrivesOfOneWhoBrokeIn();
        arrivesOfOneWhoBreaksIn();
        arrivesOverTheTableWrap();
        bestOfNoCourier();
        bestAtTheGoalNow();
        bestFromNoneToTwenty();
        bestInPlaceOfThoseNow();
        bestWhateverThePlaceBears();
        bestIsTheMostNotTheFirst();
        bestAtMost150();
        bestOfOneWhoBrokeIn();
        thawThatHasCome();
        thawInThisHour();
        thawInAtMost720();
        thawOverTheTableWrap();
        thawOnALateDay();
        thawIfNothingIsDone();
        looksAheadChangeNothing();
        meanOfTheLeastAndTheMost();
        digestOfANewRiver();
        digestWrapsAround();
        digestTellsOfEachThing();
        Checks.end();
    }

    /** "Throws IndexOutOfBoundsException if from or to is not 0 to 11." */
    private static void bearsFromOrToNoSection() {
        for (IceLanes x : Checks.rivers()) {
            for (int section : Checks.outside(0, 11)) {
                Checks.dueIndex(x, "bears(" + section + ", 0)", () -> x.bears(section, 0));
                Checks.dueIndex(x, "bears(" + section + ", 11)", () -> x.bears(section, 11));
                Checks.dueIndex(x, "bears(0, " + section + ")", () -> x.bears(0, section));
                Checks.dueIndex(x, "bears(11, " + section + ")", () -> x.bears(11, section));
                Checks.dueIndex(x, "bears(" + section + ", the same)", () -> x.bears(section, section));
            }
        }
    }

    /** "For the same section what the best of its lanes bears." */
    private static void bearsOfTheSameSection() {
        IceLanes x = new IceLanes();
        for (int section = 0; section < 12; section++) {
            for (int lane = 0; lane < 3; lane++) {
                Checks.setSection(x, section, 9, 9, 9);
                x.setIce(section, lane, 40 + section);
                Checks.due("bears(" + section + ", the same)", x.bears(section, section), 40 + section);
            }
        }
    }

    private static void bearsFromEndToEnd() {
        IceLanes x = new IceLanes();
        for (int place = 0; place < 36; place++) {
            x.setIce(place / 3, place % 3, 60);
        }
        Checks.due("bears(0, 11)", x.bears(0, 11), 60);
        Checks.due("bears(11, 0)", x.bears(11, 0), 60);
        Checks.due("bears(0, 1)", x.bears(0, 1), 60);
        Checks.due("bears(11, 10)", x.bears(11, 10), 60);
    }

    /** "What the weakest place bears (with the first one and the last one)", and none beyond these. */
    private static void bearsTheWeakestOfTheWay() {
        for (int weak = 0; weak < 12; weak++) {
            IceLanes x = new IceLanes();
            Checks.setSection(x, weak, 7, 8, 6);
            for (int from = 0; from < 12; from++) {
                for (int to = 0; to < 12; to++) {
                    boolean over = Math.min(from, to) <= weak && weak <= Math.max(from, to);
                    Checks.due("bears(" + from + ", " + to + ") over " + weak, x.bears(from, to), over ? 8 : 30);
                }
            }
        }
    }

    /** "In each step at most one lane to the side." */
    private static void bearsAtMostOneLaneToTheSide() {
        for (int first = 0; first < 3; first++) {
            for (int last = 0; last < 3; last++) {
                IceLanes x = new IceLanes();
                Checks.setSection(x, 0, 4, 4, 4);
                Checks.setSection(x, 1, 5, 5, 5);
                x.setIce(0, first, 50);
                x.setIce(1, last, 40);
                int due = Math.abs(first - last) <= 1 ? 40 : 5;
                Checks.due("bears(0, 1) from " + first + " to " + last, x.bears(0, 1), due);
                Checks.due("bears(1, 0) from " + last + " to " + first, x.bears(1, 0), due);
                Checks.setSection(x, 2, 2, 2, 2);
                x.setIce(2, first, 60);
                Checks.due("bears(0, 2) and back", x.bears(0, 2), due);
            }
        }
        IceLanes x = new IceLanes();
        Checks.setSection(x, 0, 50, 4, 4);
        Checks.setSection(x, 1, 5, 45, 5);
        Checks.setSection(x, 2, 6, 6, 40);
        Checks.due("bears(0, 2) across in two steps", x.bears(0, 2), 40);
        Checks.due("bears(2, 0) across in two steps", x.bears(2, 0), 40);
    }

    /** "Each place as place() tells of what it bears", so at least 0. */
    private static void bearsAtLeastNothing() {
        IceLanes x = new IceLanes();
        Checks.setSection(x, 5, 0, 0, 0);
        Checks.due("bears(0, 11) over open water", x.bears(0, 11), 0);
        Checks.due("bears(5, 5) on open water", x.bears(5, 5), 0);
        Checks.due("bears(6, 11) beside open water", x.bears(6, 11), 30);
        for (int cracks = 1; cracks <= 9; cracks++) {
            IceLanes y = Checks.crackedRiver(cracks);
            Checks.setSection(y, 1, 3 * cracks - 1, 0, 0);
            Checks.due("bears(1, 1) on " + cracks + " cracks", y.bears(1, 1), 0);
            Checks.due("bears(0, 2) over " + cracks + " cracks", y.bears(0, 2), 0);
        }
    }

    private static void bearsWithCracks() {
        for (int cracks = 0; cracks <= 9; cracks++) {
            IceLanes x = Checks.crackedRiver(cracks);
            Checks.setSection(x, 1, 20 + 3 * cracks, 19, 0);
            Checks.due("bears(0, 2) over " + cracks + " cracks", x.bears(0, 2), 20);
            x.setIce(1, 0, 18 + 3 * cracks);
            Checks.due("bears(0, 2) beside " + cracks + " cracks", x.bears(0, 2), 19);
        }
    }

    /** "Throws IndexOutOfBoundsException if there is no such courier." */
    private static void arrivesOfNoCourier() {
        for (IceLanes x : Checks.rivers()) {
            for (int courier : Checks.outside(0, x.count(1) - 1)) {
                Checks.dueIndex(x, "arrives(" + courier + ")", () -> x.arrives(courier));
            }
        }
    }

    /** "0 if this one is at the goal now": who came there, who arrived there, who was sent there on the way. */
    private static void arrivesAtTheGoalNow() {
        IceLanes x = Checks.stillRiver();
        x.come(3, 0, 1, 0, false);
        Checks.due("arrives(0) of one who came", x.arrives(0), 0);
        x.send(0, 5);
        x.pass(3);
        Checks.due("arrives(0) of one who has arrived", x.arrives(0), 0);
        x.setIce(5, 0, 0);
        Checks.due("arrives(0) of one who has arrived, on open water", x.arrives(0), 0);
        x.send(0, 3);
        x.pass(2);
        x.send(0, 4);
        Checks.due("arrives(0) of one who was sent to where one is", x.arrives(0), 0);
    }

    private static void arrivesBehindAnHourAndMore() {
        IceLanes x = Checks.stillRiver();
        x.come(0, 0, 1, 0, false);
        x.send(0, 1);
        Checks.due("arrives(0) of one who rests", x.arrives(0), 2);
        x.pass(1);
        Checks.due("arrives(0) of one who goes", x.arrives(0), 1);
        Checks.due("arrivals then", x.pass(1), 1);
        Checks.due("arrives(0) behind", x.arrives(0), 0);
    }

    /** From lane 0 none gets to lane 2 in a step, nor from lane 2 to lane 0. */
    private static void arrivesFromEachLane() {
        for (int lane = 0; lane < 3; lane++) {
            for (int open = 0; open < 3; open++) {
                IceLanes x = Checks.stillRiver();
                x.come(0, lane, 1, 0, false);
                x.send(0, 1);
                Checks.setSection(x, 1, 0, 0, 0);
                x.setIce(1, open, 2);
                int due = Math.abs(lane - open) <= 1 ? 2 : -1;
                Checks.due("arrives(0) from lane " + lane + " to lane " + open, x.arrives(0), due);
                Checks.due("best(0) from lane " + lane + " to lane " + open, x.best(0), due == 2 ? 0 : -1);
            }
        }
    }

    /** One who rests, or has to rest on the way, arrives when that is over; a hut makes it shorter. */
    private static void arrivesBehindRests() {
        IceLanes x = Checks.stillRiver();
        x.come(0, 0, 1, 0, false);
        x.send(0, 11);
        x.pass(12);
        x.send(0, 0);
        Checks.due("arrives(0) behind ten hours of rest", x.arrives(0), 22);
        x.build(0);
        Checks.due("arrives(0) with a hut at the goal", x.arrives(0), 22);
        x.build(1);
        Checks.due("arrives(0) with a hut where one rests", x.arrives(0), 14);
        Checks.due("arrivals ahead of then", x.pass(13), 0);
        Checks.due("arrivals then", x.pass(1), 1);
    }

    /** "At most 150; -1 if not by then." */
    private static void arrivesAtMost150() {
        for (int late = 0; late < 3; late++) {
            IceLanes x = waitsForTheDay12(late);
            Checks.due("arrives(0), late by " + late, x.arrives(0), late == 0 ? 150 : -1);
            x.pass(late == 0 ? 1 : late);
            Checks.due("arrives(0) later", x.arrives(0), late == 0 ? 149 : 150);
            x.pass(149);
            Checks.due("arrives(0) much later", x.arrives(0), late == 0 ? 0 : 1);
        }
    }

    /** A sled who can go on from section 0 at the hour 144, and then is 6 sections from its goal and some more. */
    private static IceLanes waitsForTheDay12(int more) {
        IceLanes x = Checks.stillRiver();
        x.setWarm(12, -9);
        Checks.setSection(x, 1, 0, 0, 0);
        x.come(0, 0, 1, 0, false);
        x.send(0, 6 + more);
        return x;
    }

    private static void arrivesNever() {
        IceLanes x = Checks.stillRiver();
        x.come(0, 0, 5, 5, false);
        x.send(0, 1);
        Checks.setSection(x, 1, 9, 9, 60);
        Checks.due("arrives(0) of one who finds no place", x.arrives(0), -1);
        x.setIce(1, 1, 20);
        Checks.due("arrives(0) of one who finds one", x.arrives(0), 2);
    }

    /** "Or if this one broke in (also at the goal)." */
    private static void arrivesOfOneWhoBrokeIn() {
        for (int goal = 1; goal <= 2; goal++) {
            IceLanes x = Checks.stillRiver();
            x.come(0, 0, 28, 0, false);
            x.send(0, goal);
            x.pass(2);
            Checks.due("one broke in", x.courier(0, 6), 3);
            Checks.due("arrives(0) of one who broke in", x.arrives(0), -1);
            for (int place = 0; place < 36; place++) {
                x.setIce(place / 3, place % 3, 60);
            }
            Checks.due("arrives(0) of one who broke in, on thick ice", x.arrives(0), -1);
        }
    }

    /** "Or breaks in": on the way, and at the goal. */
    private static void arrivesOfOneWhoBreaksIn() {
        for (int goal = 1; goal <= 2; goal++) {
            IceLanes x = Checks.stillRiver();
            x.come(0, 0, 20, 8, false);
            x.send(0, goal);
            Checks.due("arrives(0) of one who breaks in", x.arrives(0), -1);
            x.load(0, -1);
            Checks.due("arrives(0) of one who just does not", x.arrives(0), 1 + goal);
        }
    }

    /** The table wraps around in the hours that are looked at, too. */
    private static void arrivesOverTheTableWrap() {
        IceLanes x = Checks.stillRiver();
        x.pass(13 * 12 + 1);
        x.setWarm(0, -9);
        Checks.setSection(x, 1, 0, 0, 0);
        x.come(0, 0, 1, 0, false);
        x.send(0, 1);
        Checks.due("arrives(0) on the day 14", x.arrives(0), 12);
        Checks.due("arrivals", x.pass(11), 0);
        Checks.due("arrivals on the day 14", x.pass(1), 1);
    }

    /** "Throws IndexOutOfBoundsException if there is no such courier." */
    private static void bestOfNoCourier() {
        for (IceLanes x : Checks.rivers()) {
            for (int courier : Checks.outside(0, x.count(1) - 1)) {
                Checks.dueIndex(x, "best(" + courier + ")", () -> x.best(courier));
            }
        }
    }

    private static void bestAtTheGoalNow() {
        IceLanes x = new IceLanes();
        x.setIce(3, 1, 40);
        x.come(3, 1, 40, 0, false);
        Checks.due("best(0) at the goal", x.best(0), 20);
        x.setIce(3, 1, 0);
        Checks.due("best(0) at the goal, on open water", x.best(0), 20);
    }

    /** "The most letters, 0 to 20, with which this one would arrive; -1 if with none." */
    private static void bestFromNoneToTwenty() {
        for (int more = -2; more <= 22; more++) {
            IceLanes x = Checks.stillRiver();
            x.come(0, 0, 20, 0, false);
            x.send(0, 1);
            Checks.setSection(x, 1, 23 + more, 0, 0);
            Checks.due("best(0) on ice of " + (23 + more), x.best(0), more < 0 ? -1 : Math.min(20, more));
        }
    }

    /** "If they were carried from now on in the place of those now": neither more nor fewer with those. */
    private static void bestInPlaceOfThoseNow() {
        for (int letters = 0; letters <= 20; letters++) {
            IceLanes x = Checks.stillRiver();
            x.setIce(0, 0, 60);
            x.come(0, 0, 20, letters, false);
            x.send(0, 1);
            Checks.setSection(x, 1, 33, 0, 0);
            Checks.due("best(0) with " + letters + " now", x.best(0), 10);
            Checks.due("the letters behind best(0)", x.courier(0, 1), letters);
        }
    }

    /** "(whatever the place bears now)." */
    private static void bestWhateverThePlaceBears() {
        for (int ice = 0; ice <= 60; ice += 12) {
            IceLanes x = Checks.stillRiver();
            x.come(0, 0, 20, 3, false);
            x.send(0, 1);
            Checks.setSection(x, 1, 60, 60, 60);
            x.setIce(0, 0, ice);
            Checks.due("best(0) from ice of " + ice, x.best(0), 20);
        }
    }

    /** Fewer letters may break in where more wait for thicker ice: "the most .. with which this one would arrive". */
    private static void bestIsTheMostNotTheFirst() {
        IceLanes x = Checks.stillRiver();
        x.setWarm(1, -9);
        x.setWarm(2, -9);
        x.come(0, 0, 10, 0, false);
        x.send(0, 1);
        Checks.setSection(x, 1, 12, 0, 0);
        Checks.due("arrives(0) without letters", x.arrives(0), -1);
        Checks.due("best(0)", x.best(0), 17);
        x.load(0, 17);
        Checks.due("arrives(0) with the best", x.arrives(0), 25);
        x.load(0, 1);
        Checks.due("arrives(0) with one more", x.arrives(0), -1);
        x.load(0, -9);
        Checks.due("arrives(0) with 9", x.arrives(0), -1);
        x.load(0, -1);
        Checks.due("arrives(0) with 8", x.arrives(0), 13);
    }

    /** ".. would arrive as above": in at most 150 hours. */
    private static void bestAtMost150() {
        IceLanes x = waitsForTheDay12(0);
        Checks.due("best(0) in 150 hours", x.best(0), 5);
        IceLanes y = waitsForTheDay12(1);
        Checks.due("best(0) in 151 hours", y.best(0), -1);
        y.pass(1);
        Checks.due("best(0) an hour later", y.best(0), 5);
    }

    private static void bestOfOneWhoBrokeIn() {
        for (int goal = 1; goal <= 2; goal++) {
            IceLanes x = Checks.stillRiver();
            x.come(0, 0, 28, 0, false);
            x.send(0, goal);
            x.pass(2);
            for (int place = 0; place < 36; place++) {
                x.setIce(place / 3, place % 3, 60);
            }
            Checks.due("best(0) of one who broke in", x.best(0), -1);
        }
    }

    /** "Returns the day of the thaw, if it has come", whatever would come now. */
    private static void thawThatHasCome() {
        IceLanes x = Checks.stillRiver();
        Checks.setSection(x, 5, 0, 0, 0);
        x.pass(1);
        Checks.due("thaw() in its hour", x.thaw(), 0);
        Checks.setSection(x, 5, 60, 60, 60);
        Checks.due("thaw() with ice again", x.thaw(), 0);
        Checks.passLong(x, 800);
        Checks.due("thaw() more than 720 hours later", x.thaw(), 0);
        Checks.setSection(x, 6, 0, 0, 0);
        Checks.due("thaw() with other water", x.thaw(), 0);
    }

    /** The hour that is next is the first of those looked at, on the day it is on. */
    private static void thawInThisHour() {
        int[] hours = {11, 12, 13, 167, 168};
        for (int hour : hours) {
            IceLanes x = Checks.stillRiver();
            x.pass(hour);
            Checks.setSection(x, 11, 0, 0, 0);
            Checks.due("count(10) ahead of the hour", x.count(10), -1);
            Checks.due("thaw() in the hour " + hour, x.thaw(), hour / 12);
        }
    }

    /** "-1 if it does not in the next 720 hours": it comes in the hour 720, which is the 721st from 0. */
    private static void thawInAtMost720() {
        IceLanes x = Checks.stillRiver();
        x.setWarm(60 % 14, 3);
        Checks.due("thaw() in the 721st hour", x.thaw(), -1);
        x.pass(1);
        Checks.due("thaw() in the 720th hour", x.thaw(), 60);
        x.pass(1);
        Checks.due("thaw() in the 719th hour", x.thaw(), 60);
        Checks.passLong(x, 718);
        Checks.due("count(10) ahead of the hour", x.count(10), -1);
        x.pass(1);
        Checks.due("count(10) in the hour", x.count(10), 60);
    }

    /** Each day of the table is looked at by its number, behind the day 13, too. */
    private static void thawOverTheTableWrap() {
        for (int number = 0; number < 14; number++) {
            IceLanes x = Checks.stillRiver();
            x.pass(1);
            x.setWarm(number, 9);
            Checks.setSection(x, 5, 18, 18, 18);
            int day = number == 0 ? 14 : number;
            Checks.due("thaw() by the day number " + number, x.thaw(), day);
            Checks.passLong(x, 12 * day);
            Checks.due("count(10) by the day number " + number, x.count(10), day);
        }
    }

    /** The day of the thaw has no most, as the day of a wager has. */
    private static void thawOnALateDay() {
        IceLanes x = Checks.stillRiver();
        Checks.passLong(x, 12 * 510 - 1);
        x.setWarm(510 % 14, 9);
        Checks.setSection(x, 5, 18, 18, 18);
        Checks.due("thaw() on the day 510", x.thaw(), 510);
        x.pass(2);
        Checks.due("count(10) on the day 510", x.count(10), 510);
    }

    /** "That on which it comes, if nothing is done": couriers who go break ice then, too. */
    private static void thawIfNothingIsDone() {
        for (int letters = 7; letters <= 8; letters++) {
            IceLanes x = Checks.stillRiver();
            x.pass(11);
            x.come(0, 0, 20, letters, false);
            x.send(0, 2);
            Checks.setSection(x, 1, 30, 0, 0);
            Checks.due("thaw() with " + letters + " letters", x.thaw(), letters == 7 ? -1 : 1);
            x.send(0, 0);
            Checks.due("thaw() if none goes", x.thaw(), -1);
        }
    }

    /** "(nothing is changed)": arrives, best and thaw, and bears, mean and digest. */
    private static void looksAheadChangeNothing() {
        for (IceLanes x : Checks.rivers()) {
            long before = x.digest();
            for (int courier = 0; courier < x.count(1); courier++) {
                x.arrives(courier);
                Checks.due("the digest behind arrives(" + courier + ")", x.digest(), before);
                x.best(courier);
                Checks.due("the digest behind best(" + courier + ")", x.digest(), before);
            }
            x.thaw();
            Checks.due("the digest behind thaw()", x.digest(), before);
            x.bears(0, 11);
            Checks.due("the digest behind bears(0, 11)", x.digest(), before);
            x.mean();
            Checks.due("the digest behind mean()", x.digest(), before);
        }
    }

    /** "Returns the mean ice of all places", cut nowhere. */
    private static void meanOfTheLeastAndTheMost() {
        IceLanes x = new IceLanes();
        int sum = 36 * 30;
        for (int place = 0; place < 36; place++) {
            Checks.dueDouble("mean()", x.mean(), sum / 36.0);
            sum -= x.setIce(place / 3, place % 3, 0);
        }
        Checks.dueDouble("mean() of open water", x.mean(), 0.0);
        x.setIce(11, 2, 1);
        Checks.dueDouble("mean() with ice of 1", x.mean(), 1 / 36.0);
        for (int place = 0; place < 36; place++) {
            x.setIce(place / 3, place % 3, 60);
        }
        Checks.dueDouble("mean() of the thickest ice", x.mean(), 60.0);
        IceLanes cracked = Checks.crackedRiver(9);
        Checks.dueDouble("mean() with cracks", cracked.mean(), (60 + 59 + 34 * 30) / 36.0);
    }

    /** "A number d starts with 757": worked out without the program, from what the document says of a new river. */
    private static void digestOfANewRiver() {
        Checks.due("digest() of a new river", new IceLanes().digest(), 4656333517271302514L);
    }

    /** "Wraps around as a 64-bit integer": held against numbers without an end, cut to 64 bits behind it all. */
    private static void digestWrapsAround() {
        for (int warm = -9; warm <= 9; warm++) {
            IceLanes x = new IceLanes();
            StringBuilder numbers = new StringBuilder("0 0 0 0 0 0 0 0 0 0 -1");
            for (int day = 0; day < 14; day++) {
                x.setWarm(day, warm);
                numbers.append(' ').append(warm);
            }
            for (int place = 0; place < 36; place++) {
                numbers.append(" 30 0");
            }
            numbers.append(" 0 0 0 0 0 0 0 0 0 0 0 0");
            Checks.due("digest() at " + warm, x.digest(), wrapped(numbers.toString()));
        }
    }

    private static long wrapped(String numbers) {
        BigInteger d = BigInteger.valueOf(757);
        for (String number : numbers.split(" ")) {
            d = d.multiply(BigInteger.valueOf(31)).add(new BigInteger(number));
        }
        return d.longValue();
    }

    /** From nothing there yet to as many as there can be: "for each courier ..; for each wager .." */
    private static void digestTellsOfEachThing() {
        IceLanes full = Checks.fullRiver();
        StringBuilder numbers = new StringBuilder("1 8 0 0 0 0 3 12 12 84 0");
        for (int day = 0; day < 14; day++) {
            numbers.append(" 0");
        }
        for (int place = 0; place < 36; place++) {
            numbers.append(place < 33 ? " 30 0" : " 0 0");
        }
        numbers.append(" 1 1 1 1 1 1 1 1 1 1 1 1");
        for (int i = 0; i < 8; i++) {
            numbers.append(" 1 ").append(i).append(" 20 ").append(i).append(" 0 ").append(i).append(" 0 0 ");
            numbers.append(i % 2 == 0 ? 1 : 0);
        }
        for (int i = 0; i < 12; i++) {
            numbers.append(' ').append(i).append(" 7 ").append(i == 0 ? 84 : 0);
        }
        Checks.due("digest() of a full river", full.digest(), wrapped(numbers.toString()));
    }
}
