/** Promises 1 to 5: a new object, setWarm, setIce, build, place. */
public final class RiverTest {
    public static void main(String[] args) {
        promise1NewObject();
        promise2SetWarm();
        promise3SetIce();
        promise4Build();
        promise5Place();
        promise5CouriersOfAPlace();
        Checks.end();
    }

    private static void promise1NewObject() {
        IceLanes x = new IceLanes();
        for (int what = 0; what <= 9; what++) {
            Checks.due("count(" + what + ") of a new river", x.count(what), 0);
        }
        Checks.due("count(10) of a new river", x.count(10), -1);
        for (int section = 0; section < 12; section++) {
            for (int lane = 0; lane < 3; lane++) {
                Checks.due("the first ice", x.place(section, lane, 0), 30);
                Checks.due("the first cracks", x.place(section, lane, 1), 0);
                Checks.due("the couriers of a place without any", x.place(section, lane, 3), 0);
            }
        }
        for (int day = 0; day < 14; day++) {
            Checks.due("setWarm on day " + day, x.setWarm(day, 0), -2);
        }
        IceLanes other = new IceLanes();
        Checks.due("setIce on one of two", x.setIce(0, 0, 1), 30);
        Checks.due("the ice of the other one", other.place(0, 0, 0), 30);
    }

    private static void promise2SetWarm() {
        IceLanes x = new IceLanes();
        Checks.due("setWarm(0, 9)", x.setWarm(0, 9), -2);
        Checks.due("setWarm(0, -9)", x.setWarm(0, -9), 9);
        Checks.due("setWarm(0, 0)", x.setWarm(0, 0), -9);
        Checks.due("setWarm(13, 4)", x.setWarm(13, 4), -2);
        Checks.due("setWarm(13, 5)", x.setWarm(13, 5), 4);
        Checks.due("setWarm(12, 5)", x.setWarm(12, 5), -2);
        Checks.dueIndex(x, "setWarm(-1, 0)", () -> x.setWarm(-1, 0));
        Checks.dueIndex(x, "setWarm(14, 0)", () -> x.setWarm(14, 0));
        Checks.dueIndex(x, "setWarm(14, 10)", () -> x.setWarm(14, 10));
        Checks.dueIndex(x, "setWarm(MIN, 0)", () -> x.setWarm(Integer.MIN_VALUE, 0));
        Checks.dueArgument(x, "setWarm(0, 10)", () -> x.setWarm(0, 10));
        Checks.dueArgument(x, "setWarm(13, -10)", () -> x.setWarm(13, -10));
        Checks.dueArgument(x, "setWarm(13, MIN)", () -> x.setWarm(13, Integer.MIN_VALUE));
    }

    private static void promise3SetIce() {
        IceLanes x = new IceLanes();
        Checks.due("setIce(0, 0, 60)", x.setIce(0, 0, 60), 30);
        Checks.due("setIce(0, 0, 0)", x.setIce(0, 0, 0), 60);
        Checks.due("setIce(0, 0, 7)", x.setIce(0, 0, 7), 0);
        Checks.due("setIce(11, 2, 8)", x.setIce(11, 2, 8), 30);
        Checks.due("place(11, 2, 0)", x.place(11, 2, 0), 8);
        Checks.due("place(11, 1, 0)", x.place(11, 1, 0), 30);
        Checks.due("place(10, 2, 0)", x.place(10, 2, 0), 30);
        Checks.due("place(0, 0, 0)", x.place(0, 0, 0), 7);
        Checks.dueIndex(x, "setIce(-1, 0, 0)", () -> x.setIce(-1, 0, 0));
        Checks.dueIndex(x, "setIce(12, 0, 0)", () -> x.setIce(12, 0, 0));
        Checks.dueIndex(x, "setIce(0, -1, 0)", () -> x.setIce(0, -1, 0));
        Checks.dueIndex(x, "setIce(1, -1, 0)", () -> x.setIce(1, -1, 0));
        Checks.dueIndex(x, "setIce(0, 3, 0)", () -> x.setIce(0, 3, 0));
        Checks.dueIndex(x, "setIce(12, 0, 61)", () -> x.setIce(12, 0, 61));
        Checks.dueIndex(x, "setIce(0, 3, -1)", () -> x.setIce(0, 3, -1));
        Checks.dueArgument(x, "setIce(0, 0, -1)", () -> x.setIce(0, 0, -1));
        Checks.dueArgument(x, "setIce(0, 0, 61)", () -> x.setIce(0, 0, 61));
    }

    private static void promise4Build() {
        IceLanes x = new IceLanes();
        Checks.due("build(11)", x.build(11), 1);
        Checks.due("build(0)", x.build(0), 2);
        Checks.due("build(11) again", x.build(11), 2);
        Checks.due("build(5)", x.build(5), 3);
        Checks.due("count(7)", x.count(7), 3);
        Checks.dueIndex(x, "build(-1)", () -> x.build(-1));
        Checks.dueIndex(x, "build(12)", () -> x.build(12));
        Checks.dueIndex(x, "build(MAX)", () -> x.build(Integer.MAX_VALUE));
    }

    private static void promise5Place() {
        IceLanes x = Checks.stillRiver();
        x.come(0, 0, 20, 0, false);
        x.send(0, 1);
        x.setIce(1, 1, 29);
        x.pass(2);
        Checks.due("the ice gone over", x.place(1, 0, 0), 30);
        Checks.due("the cracks gone over", x.place(1, 0, 1), 1);
        Checks.due("what it bears with a crack", x.place(1, 0, 2), 27);
        Checks.due("what it bears beside", x.place(1, 1, 2), 29);
        x.setIce(1, 0, 2);
        Checks.due("what it bears if cracks take more than there is", x.place(1, 0, 2), 0);
        Checks.due("cracks stay when ice is set", x.place(1, 0, 1), 1);
        x.setIce(1, 0, 4);
        Checks.due("what ice of 4 with a crack bears", x.place(1, 0, 2), 1);
        Checks.dueIndex(x, "place(-1, 0, 0)", () -> x.place(-1, 0, 0));
        Checks.dueIndex(x, "place(12, 0, 0)", () -> x.place(12, 0, 0));
        Checks.dueIndex(x, "place(0, -1, 0)", () -> x.place(0, -1, 0));
        Checks.dueIndex(x, "place(0, 3, 0)", () -> x.place(0, 3, 0));
        Checks.dueIndex(x, "place(0, 0, -1)", () -> x.place(0, 0, -1));
        Checks.dueIndex(x, "place(0, 0, 4)", () -> x.place(0, 0, 4));
    }

    private static void promise5CouriersOfAPlace() {
        IceLanes x = Checks.stillRiver();
        x.come(4, 1, 1, 0, true);
        x.come(4, 1, 28, 0, false);
        x.come(4, 2, 1, 0, false);
        x.come(5, 1, 1, 0, false);
        Checks.due("place(4, 1, 3)", x.place(4, 1, 3), 2);
        Checks.due("place(4, 2, 3)", x.place(4, 2, 3), 1);
        Checks.due("place(4, 0, 3)", x.place(4, 0, 3), 0);
        x.send(1, 3);
        x.pass(2);
        Checks.due("one is out", x.courier(1, 6), 3);
        Checks.due("the lane of the one who is out", x.courier(1, 4), 0);
        Checks.due("place(3, 0, 3) where one is out", x.place(3, 0, 3), 0);
        Checks.due("place(4, 1, 3) behind the one who went", x.place(4, 1, 3), 1);
        x.send(0, 3);
        x.pass(2);
        Checks.due("place(3, 1, 3) with one who has arrived", x.place(3, 1, 3), 1);
    }
}
