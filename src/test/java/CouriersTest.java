/** Promises 6 to 9: come, send, load, courier. */
public final class CouriersTest {
    public static void main(String[] args) {
        promise6Come();
        promise6ComeThrows();
        promise6ComeEight();
        promise7Send();
        promise7SendRestsAgain();
        promise7SendThrows();
        promise8Load();
        promise8LoadThrows();
        promise9Courier();
        Checks.end();
    }

    private static void promise6Come() {
        IceLanes x = new IceLanes();
        x.setIce(11, 2, 60);
        Checks.due("come(11, 2, 40, 20, true)", x.come(11, 2, 40, 20, true), 0);
        Checks.due("come(0, 1, 1, 0, false)", x.come(0, 1, 1, 0, false), 1);
        long[][] due = {{40, 20, 20, 11, 2, 11, 0, 0, 1}, {1, 0, 20, 0, 1, 0, 0, 0, 0}};
        for (int courier = 0; courier < 2; courier++) {
            for (int what = 0; what <= 8; what++) {
                Checks.due("courier(" + courier + ", " + what + ")", x.courier(courier, what), due[courier][what]);
            }
        }
        Checks.due("count(1)", x.count(1), 2);
    }

    private static void promise6ComeThrows() {
        IceLanes x = new IceLanes();
        Checks.dueIndex(x, "come(-1, 0, 1, 0)", () -> x.come(-1, 0, 1, 0, true));
        Checks.dueIndex(x, "come(12, 0, 1, 0)", () -> x.come(12, 0, 1, 0, true));
        Checks.dueIndex(x, "come(0, -1, 1, 0)", () -> x.come(0, -1, 1, 0, true));
        Checks.dueIndex(x, "come(0, 3, 0, 21)", () -> x.come(0, 3, 0, 21, true));
        Checks.dueArgument(x, "come(0, 0, 0, 0)", () -> x.come(0, 0, 0, 0, true));
        Checks.dueArgument(x, "come(0, 0, 41, 0)", () -> x.come(0, 0, 41, 0, false));
        Checks.dueArgument(x, "come(0, 0, 1, -1)", () -> x.come(0, 0, 1, -1, false));
        Checks.dueArgument(x, "come(0, 0, 1, 21)", () -> x.come(0, 0, 1, 21, false));
        Checks.dueArgument(x, "come(0, 0, MAX, MAX)",
            () -> x.come(0, 0, Integer.MAX_VALUE, Integer.MAX_VALUE, false));
        Checks.dueState(x, "come(0, 0, 25, 6)", () -> x.come(0, 0, 25, 6, false));
        Checks.due("come(0, 0, 25, 5)", x.come(0, 0, 25, 5, false), 0);
        x.setIce(3, 1, 0);
        Checks.dueState(x, "come on open water", () -> x.come(3, 1, 1, 0, false));
    }

    private static void promise6ComeEight() {
        IceLanes x = new IceLanes();
        for (int i = 0; i < 8; i++) {
            Checks.due("come for the " + i + "th", x.come(i, 0, 1, 0, true), i);
        }
        Checks.dueState(x, "come for the ninth", () -> x.come(0, 0, 1, 0, true));
        Checks.dueArgument(x, "come(0, 0, 0, 0) for the ninth", () -> x.come(0, 0, 0, 0, true));
        Checks.dueIndex(x, "come(12, 0, 0, 0) for the ninth", () -> x.come(12, 0, 0, 0, true));
        Checks.due("count(1)", x.count(1), 8);
    }

    private static void promise7Send() {
        IceLanes x = Checks.stillRiver();
        x.come(4, 1, 1, 0, false);
        Checks.due("send(0, 11)", x.send(0, 11), 7);
        Checks.due("send(0, 0)", x.send(0, 0), 4);
        Checks.due("the goal", x.courier(0, 5), 0);
        Checks.due("the state behind send", x.courier(0, 6), 0);
        Checks.due("the section behind send", x.courier(0, 3), 4);
        Checks.due("send(0, 4)", x.send(0, 4), 0);
        x.pass(1);
        Checks.due("the state of one at the goal", x.courier(0, 6), 0);
    }

    private static void promise7SendRestsAgain() {
        IceLanes x = Checks.stillRiver();
        x.come(4, 1, 1, 0, false);
        x.send(0, 5);
        x.pass(1);
        Checks.due("one goes", x.courier(0, 6), 1);
        Checks.due("send of one who goes", x.send(0, 2), 2);
        Checks.due("one who went rests", x.courier(0, 6), 0);
        x.pass(1);
        Checks.due("the section behind an hour of rest", x.courier(0, 3), 4);
        x.pass(2);
        Checks.due("one has arrived", x.courier(0, 6), 2);
        Checks.due("count(3)", x.count(3), 1);
        x.pass(5);
        Checks.due("the strength of one who has arrived", x.courier(0, 2), 18);
        Checks.due("send of one who has arrived", x.send(0, 3), 1);
        Checks.due("one who had arrived rests", x.courier(0, 6), 0);
        Checks.due("count(3) behind send", x.count(3), 0);
        Checks.due("send to where one is", x.send(0, 2), 0);
        Checks.due("one rests there", x.courier(0, 6), 0);
    }

    private static void promise7SendThrows() {
        IceLanes x = Checks.stillRiver();
        Checks.dueIndex(x, "send(0, 0) without couriers", () -> x.send(0, 0));
        breakIn(x);
        Checks.dueIndex(x, "send(-1, 0)", () -> x.send(-1, 0));
        Checks.dueIndex(x, "send(1, 0)", () -> x.send(1, 0));
        Checks.dueIndex(x, "send(8, 0)", () -> x.send(8, 0));
        Checks.dueIndex(x, "send(0, -1)", () -> x.send(0, -1));
        Checks.dueIndex(x, "send(0, 12)", () -> x.send(0, 12));
        Checks.dueState(x, "send(0, 3) of one who broke in", () -> x.send(0, 3));
    }

    private static void promise8Load() {
        IceLanes x = Checks.stillRiver();
        x.come(4, 1, 10, 0, false);
        Checks.due("load(0, 20)", x.load(0, 20), 20);
        Checks.due("the letters", x.courier(0, 1), 20);
        Checks.due("load(0, -20)", x.load(0, -20), 0);
        Checks.due("load(0, 5)", x.load(0, 5), 5);
        Checks.due("load(0, -2)", x.load(0, -2), 3);
        x.send(0, 5);
        x.pass(1);
        Checks.due("load of one who goes", x.load(0, 1), 4);
        Checks.due("one goes on", x.courier(0, 6), 1);
        x.pass(1);
        Checks.due("load of one who has arrived", x.load(0, 1), 5);
        Checks.due("one has arrived still", x.courier(0, 6), 2);
    }

    private static void promise8LoadThrows() {
        IceLanes x = Checks.stillRiver();
        Checks.dueIndex(x, "load(0, 1) without couriers", () -> x.load(0, 1));
        x.come(4, 1, 15, 10, false);
        Checks.dueIndex(x, "load(-1, 0)", () -> x.load(-1, 0));
        Checks.dueIndex(x, "load(1, 0)", () -> x.load(1, 0));
        Checks.dueArgument(x, "load(0, 0)", () -> x.load(0, 0));
        Checks.dueArgument(x, "load(0, 21)", () -> x.load(0, 21));
        Checks.dueArgument(x, "load(0, -21)", () -> x.load(0, -21));
        Checks.dueArgument(x, "load(0, MIN)", () -> x.load(0, Integer.MIN_VALUE));
        Checks.dueState(x, "load(0, -11)", () -> x.load(0, -11));
        Checks.dueState(x, "load(0, 6), which the place does not bear", () -> x.load(0, 6));
        x.setIce(4, 1, 60);
        Checks.dueState(x, "load(0, 11)", () -> x.load(0, 11));
        Checks.due("load(0, 10)", x.load(0, 10), 20);
        x.setIce(4, 1, 16);
        Checks.dueState(x, "load(0, -18), with which the place does not bear it", () -> x.load(0, -18));
        Checks.due("load(0, -19)", x.load(0, -19), 1);
        IceLanes out = Checks.stillRiver();
        breakIn(out);
        Checks.dueState(out, "load(0, 1) of one who broke in", () -> out.load(0, 1));
        out.setIce(1, 0, 60);
        Checks.dueState(out, "load(0, 1) of one who broke in, on thick ice", () -> out.load(0, 1));
        Checks.dueArgument(out, "load(0, 0) of one who broke in", () -> out.load(0, 0));
    }

    private static void promise9Courier() {
        IceLanes x = Checks.stillRiver();
        Checks.dueIndex(x, "courier(0, 0) without couriers", () -> x.courier(0, 0));
        x.setIce(3, 1, 31);
        x.come(2, 1, 5, 3, true);
        x.send(0, 9);
        x.pass(2);
        long[] due = {5, 3, 18, 4, 0, 9, 1, 2, 1};
        for (int what = 0; what <= 8; what++) {
            Checks.due("courier(0, " + what + ")", x.courier(0, what), due[what]);
        }
        Checks.dueIndex(x, "courier(-1, 0)", () -> x.courier(-1, 0));
        Checks.dueIndex(x, "courier(1, 0)", () -> x.courier(1, 0));
        Checks.dueIndex(x, "courier(0, -1)", () -> x.courier(0, -1));
        Checks.dueIndex(x, "courier(0, 9)", () -> x.courier(0, 9));
        IceLanes out = Checks.stillRiver();
        breakIn(out);
        long[] dueOut = {26, 0, 19, 1, 0, 2, 3, 1, 0};
        for (int what = 0; what <= 8; what++) {
            Checks.due("courier(0, " + what + ") who broke in", out.courier(0, what), dueOut[what]);
        }
    }

    /** The first courier, a sled, breaks in at section 1, lane 0, on the way from 0 to 2. */
    private static void breakIn(IceLanes x) {
        x.come(0, 0, 26, 2, false);
        x.send(0, 2);
        x.pass(2);
    }
}
