/** Terms 1 and 2: halves and whole turns, which bodies are pairs, and steps at their limits. */
public final class EdgesOfMotionTest {
    public static void main(String[] args) {
        halves();
        belowHalves();
        wholeTurns();
        drawnIn();
        noNeighbours();
        heldAndOwnBodies();
        heldAndOtherArms();
        sparedAlone();
        theLastSpared();
        barelyCrossed();
        steps();
        sixJoints();
        theWholeRange();
        noFartherThanGoal();
        brakesDownwards();
        brakesAtOnce();
        brakesJointByJoint();
        fromRestAgain();
        Due.end();
    }

    private static void pointIs(String what, int direction, int length, int x, int y) {
        RobotCellHouse house = new RobotCellHouse();
        house.arm(0, 0, direction, 0);
        house.joint(0, 0, 0, 0, length);
        Due.is(what + ", x", house.point(0, 1, 0), x);
        Due.is(what + ", y", house.point(0, 1, 1), y);
    }

    /** 1024 times COS 484, which is 772608, is 754 and a half; of 1564 it is as far below 0. */
    private static void halves() {
        pointIs("754.5 goes up", 484, 1024, 755, 692);
        pointIs("-754.5 goes up", 1564, 1024, -754, 692);
        pointIs("y of 754.5 goes up", 1508, 1024, -692, 755);
        pointIs("y of -754.5 goes up", 2588, 1024, -692, -754);
        // Two halves are a whole: what is rounded is not added up.
        RobotCellHouse x = new RobotCellHouse();
        x.arm(0, 0, 484, 0);
        x.joint(0, 0, 0, 0, 1024);
        x.joint(0, 0, 0, 0, 1024);
        Due.is("one half", x.point(0, 1, 0), 755);
        Due.is("two halves", x.point(0, 2, 0), 1509);
    }

    /** One 1048576th less than a half goes down. */
    private static void belowHalves() {
        pointIs("412.19 and 5473.499999", 49, 5489, 5473, 412);
        pointIs("73.499999", 1008, 2995, 73, 2994);
        pointIs("-73.500001", 1040, 2995, -73, 2994);
        pointIs("y of 73.499999", 16, 2995, 2994, 73);
    }

    private static void wholeTurns() {
        int[] alike = {77, 77 + 4096, 77 - 4096, 77 + 24 * 4096, 77 - 24 * 4096};
        for (int v : alike) {
            RobotCellHouse x = new RobotCellHouse();
            x.arm(5, 6, 4095, 0);
            x.joint(0, 0, -100000, 100000, 3000);
            x.joint(0, 0, -100000, 100000, 2000);
            x.open();
            x.hand(0, 0, v);
            x.hand(0, 1, -v);
            // The way of joint 0 is 4095 and 77 less a turn, which is 76; that of joint 1 is 4095 again.
            Due.is("x at " + v, x.point(0, 1, 0), 5 + 2980);
            Due.is("y at " + v, x.point(0, 1, 1), 6 + 349);
            Due.is("x of point 2 at " + v, x.point(0, 2, 0), 4985);
            Due.is("y of point 2 at " + v, x.point(0, 2, 1), 352);
        }
    }

    private static void drawnIn() {
        RobotCellHouse x = new RobotCellHouse();
        x.arm(10, 20, 700, 0);
        x.joint(0, 1, -30, 0, 30);
        x.ball(10, 24, 1);
        x.open();
        x.hand(0, 0, -30);
        Due.is("a slide of no length, x", x.point(0, 1, 0), 10);
        Due.is("a slide of no length, y", x.point(0, 1, 1), 20);
        Due.is("its body is a place", x.touches(0, 3), 1);
        Due.is("not nearer", x.touches(0, 2), 0);
    }

    private static int ownTouch(int joints) {
        RobotCellHouse x = new RobotCellHouse();
        x.arm(0, 0, 0, 0);
        for (int j = 0; j < joints; j++) x.joint(0, 0, 0, 0, 0);
        return x.touches(0, 2000);
    }

    /** All at one place: bodies 0 and 1, 1 and 2 are no pairs, but 0 and 2 are. */
    private static void noNeighbours() {
        Due.is("no bodies", ownTouch(0), 0);
        Due.is("one body", ownTouch(1), 0);
        Due.is("two bodies", ownTouch(2), 0);
        Due.is("three bodies", ownTouch(3), 1);
    }

    private static RobotCellHouse holding(int joints, int radius) {
        RobotCellHouse x = new RobotCellHouse();
        x.arm(0, 0, 0, 0);
        for (int j = 0; j < joints; j++) x.joint(0, 0, 0, 0, 100);
        x.lay(100 * joints, 0, radius);
        Due.program(x, 0, "to r: grip; end");
        return x;
    }

    private static void gripped(RobotCellHouse x) {
        x.open();
        x.start(0, 0);
        x.run(1);
        Due.is("it holds", x.state(0, 2) >= 0 ? 1 : 0, 1);
    }

    private static void heldAndOwnBodies() {
        RobotCellHouse one = holding(1, 50);
        gripped(one);
        Due.is("body 1 and its neighbour 0", one.touches(0, 2000), 0);
        RobotCellHouse two = holding(2, 40);
        two.radius(0, 0, 7);
        Due.is("two bodies and a part that lies", two.touches(0, 2000), 0);
        gripped(two);
        Due.is("body 2 and body 0, 100 from one another", two.touches(0, 52), 0);
        Due.is("body 2 and body 0", two.touches(0, 53), 1);
    }

    private static void heldAndOtherArms() {
        RobotCellHouse x = holding(1, 10);
        x.arm(100, 60, 1024, 0);
        x.lay(100, 60, 20);
        Due.program(x, 1, "to r: grip; end");
        x.open();
        Due.is("arms without bodies", x.touches(0, 2000), 0);
        x.start(0, 0);
        x.run(1);
        Due.is("one holds a part", x.touches(0, 2000), 0);
        x.start(1, 0);
        x.run(1);
        Due.is("both do", x.touches(0, 29), 0);
        Due.is("both do, nearer", x.touches(0, 30), 1);
        Due.is("the later one, too", x.touches(1, 30), 1);
    }

    /** What is spared is one body of one arm with one solid. */
    private static void sparedAlone() {
        RobotCellHouse x = new RobotCellHouse();
        for (int a = 0; a < 2; a++) {
            x.arm(0, 5000 * a, 0, 0);
            x.joint(a, 0, 0, 0, 100);
            x.joint(a, 0, 0, 0, 100);
            x.ball(100, 5000 * a, 5);
        }
        x.spare(0, 0, 0);
        Due.is("body 1 is not spared", x.touches(0, 0), 1);
        x.spare(1, 1, 0);
        Due.is("that was another arm", x.touches(0, 0), 1);
        x.spare(0, 1, 1);
        Due.is("that was another solid", x.touches(0, 0), 1);
        x.spare(0, 1, 0);
        Due.is("all are spared", x.touches(0, 0), 0);
        Due.is("the other arm is not", x.touches(1, 0), 1);
    }

    /** Body 6 of an arm of six joints is the part that it holds; solid 15 is the last one. */
    private static void theLastSpared() {
        for (int spared = 0; spared < 2; spared++) {
            RobotCellHouse x = new RobotCellHouse();
            x.arm(0, 0, 0, 0);
            for (int j = 0; j < 6; j++) x.joint(0, 0, 0, 0, 100);
            x.lay(600, 0, 50);
            for (int s = 0; s < 15; s++) x.ball(9000, 9000, 1);
            x.ball(600, 55, 5);
            Due.is("spare", spared == 1 ? x.spare(0, 6, 15) : 1, 1);
            Due.program(x, 0, "to r: grip; end");
            gripped(x);
            Due.is("body 6 and solid 15, spared " + spared, x.touches(0, 0), 1 - spared);
        }
    }

    /** The line from (0, 0) to (2, 1) and that from (1, 0) to (1, 1), each from either end. */
    private static void barelyCrossed() {
        int[][] slopes = {{0, 0, 228}, {2, 1, 2276}};
        int[][] uprights = {{1, 0, 1024}, {1, 1, 3072}};
        for (int[] s : slopes) {
            for (int[] u : uprights) {
                RobotCellHouse x = new RobotCellHouse();
                x.arm(s[0], s[1], s[2], 0);
                x.joint(0, 0, 0, 0, 2);
                x.arm(u[0], u[1], u[2], 0);
                x.joint(1, 0, 0, 0, 1);
                Due.is("the slope's end", x.point(0, 1, 0) * 10 + x.point(0, 1, 1), 21 - 10 * s[0] - s[1]);
                Due.is("lines that cross between their ends", x.touches(0, 0), 1);
                Due.is("the other one", x.touches(1, 0), 1);
            }
        }
        RobotCellHouse beside = new RobotCellHouse();
        beside.arm(0, 0, 228, 0);
        beside.joint(0, 0, 0, 0, 2);
        beside.arm(1, 1, 1024, 0);
        beside.joint(1, 0, 0, 0, 1);
        Due.is("one that ends above the slope", beside.touches(0, 0), 0);
    }

    /** The greatest step by trying each one, as the words say. */
    private static int stepDue(int s, int far, int speed, int gain) {
        for (int d = Math.min(speed, s + gain); d > 0; d--) {
            long sum = 0;
            for (int part = d; part > 0; part -= gain) sum += part;
            if (sum <= far) return d;
        }
        return 0;
    }

    private static RobotCellHouse mover(int low, int high, int speed, int gain, String text) {
        RobotCellHouse x = new RobotCellHouse();
        x.arm(0, 0, 0, 0);
        x.joint(0, 0, low, high, 100);
        x.pace(0, 0, speed, gain);
        x.person(0, true);
        int routines = Due.program(x, 0, text);
        if (routines < 0) Due.is("program of " + text, routines, 0);
        x.open();
        x.reset(0);
        return x;
    }

    private static void stepsTo(int goal, int speed, int gain) {
        RobotCellHouse x = mover(-100000, 100000, speed, gain, "to r: move " + goal + "; end");
        x.start(0, 0);
        int sign = goal < 0 ? -1 : 1;
        int at = 0;
        int step = 0;
        int ticks = 0;
        while (ticks < 120 && x.state(0, 0) == (ticks == 0 ? 0 : 1)) {
            step = stepDue(step, sign * (goal - at), speed, gain);
            at += sign * step;
            x.run(1);
            ticks++;
            Due.is("tick " + ticks + " to " + goal + " by " + speed + ", " + gain, x.value(0, 0), at);
        }
    }

    private static void steps() {
        int[][] paces = {{1, 1}, {2, 1}, {10, 3}, {10, 10}, {10, 11}, {2000, 1}, {2000, 7}, {1, 2000}, {2000, 2000}, {1999, 2000}};
        int[] goals = {1, -1, 2, 9, 10, -11, 31, -100, 777, 4000, -4001};
        for (int[] p : paces) {
            for (int goal : goals) stepsTo(goal, p[0], p[1]);
        }
    }

    private static void sixJoints() {
        RobotCellHouse x = new RobotCellHouse();
        x.person(0, true);
        x.arm(0, 0, 0, 0);
        for (int j = 0; j < 6; j++) {
            x.joint(0, 0, -100, 100, 50);
            x.pace(0, j, 10, 10);
        }
        Due.program(x, 0, "to r: move 10, 20, 30, -10, -20, -30; end to s: move 0, 0, 0, 0, 0, 100; end");
        x.open();
        x.reset(0);
        x.start(0, 0);
        x.run(4);
        int[] due = {10, 20, 30, -10, -20, -30};
        for (int j = 0; j < 6; j++) Due.is("joint " + j, x.value(0, j), due[j]);
        Due.eventsAre("six joints", x, "0:3(0,0) 4:8(0,4)");
        x.start(0, 1);
        x.run(2);
        x.stop(0);
        x.run(1);
        int[] then = {0, 0, 10, 0, 0, -10};
        for (int j = 0; j < 6; j++) Due.is("joint " + j + " braked", x.value(0, j), then[j]);
        Due.is("it stands", x.state(0, 0), 0);
    }

    private static void theWholeRange() {
        RobotCellHouse x = mover(-100000, 100000, 2000, 2000, "to r: move -100000; move 100000; move -100000; end");
        x.start(0, 0);
        x.run(51);
        Due.is("at its LOW", x.value(0, 0), -100000);
        x.run(101);
        Due.is("at its HIGH", x.value(0, 0), 100000);
        x.run(101);
        Due.is("at its LOW again", x.value(0, 0), -100000);
        Due.is("event of the first", x.event(1, 3), 51);
        Due.is("event of the second", x.event(2, 3), 101);
        Due.is("event of the third", x.event(3, 3), 101);
        Due.is("never(0)", x.never(0), 0);
        Due.is("never(1)", x.never(1), 0);
    }

    /** The last steps: what is left is less than the step before it. */
    private static void noFartherThanGoal() {
        RobotCellHouse x = mover(0, 25, 10, 10, "to r: move 25; end");
        x.start(0, 0);
        int[] due = {10, 20, 25, 25};
        for (int i = 0; i < due.length; i++) {
            Due.is("it goes from its first tick on", x.state(0, 0), i == 0 ? 0 : 1);
            x.run(1);
            Due.is("towards 25", x.value(0, 0), due[i]);
        }
        Due.is("at its goal with a step of 0 it stands", x.state(0, 0), 0);
        Due.eventsAre("towards 25", x, "0:3(0,0) 4:8(0,4)");
    }

    private static void brakesDownwards() {
        RobotCellHouse x = mover(-1000, 0, 30, 7, "to r: move -1000; end");
        x.start(0, 0);
        x.run(3);
        Due.is("7 + 14 + 21 downwards", x.value(0, 0), -42);
        x.stop(0);
        int[] due = {-56, -63, -63};
        for (int i = 0; i < due.length; i++) {
            Due.is("it brakes", x.state(0, 0), 2);
            x.run(1);
            Due.is("braking downwards", x.value(0, 0), due[i]);
        }
        Due.is("it stands", x.state(0, 0), 0);
    }

    /** A step that is no more than GAIN from 0 is 0 then; one more than that is 1. */
    private static void brakesAtOnce() {
        RobotCellHouse x = mover(0, 1000, 30, 30, "to r: move 1000; end");
        x.start(0, 0);
        x.run(3);
        x.stop(0);
        x.run(1);
        Due.is("a step of GAIN", x.value(0, 0), 90);
        Due.is("it stands", x.state(0, 0), 0);
        RobotCellHouse y = mover(0, 1000, 30, 29, "to r: move 1000; end");
        y.start(0, 0);
        y.run(3);
        Due.is("29 + 30 + 30", y.value(0, 0), 89);
        y.stop(0);
        y.run(1);
        Due.is("a step of one more", y.value(0, 0), 90);
        Due.is("it brakes on", y.state(0, 0), 2);
        y.run(1);
        Due.is("it stands then", y.state(0, 0), 0);
        Due.is("where it was", y.value(0, 0), 90);
    }

    /** Behind a trip all steps are 0: the next move begins as the first one did. */
    private static void fromRestAgain() {
        RobotCellHouse x = mover(-1000, 1000, 100, 10, "to r: try: move 1000; catch: end move 0; end");
        x.start(0, 0);
        x.run(4);
        Due.is("10 + 20 + 30 + 40", x.value(0, 0), 100);
        x.stop(-1);
        x.reset(0);
        int[] due = {90, 70, 40, 17, 4, 0, 0};
        int[] steps = {10, 20, 30, 23, 13, 4, 0};
        int at = 100;
        for (int i = 0; i < due.length; i++) {
            x.run(1);
            int step = at - x.value(0, 0);
            at = x.value(0, 0);
            Due.is("value in tick " + x.time(), at, due[i]);
            Due.is("step in tick " + x.time(), step, steps[i]);
        }
        Due.is("it stands", x.state(0, 0), 0);
    }

    private static void brakesJointByJoint() {
        RobotCellHouse x = new RobotCellHouse();
        x.arm(0, 0, 0, 0);
        for (int j = 0; j < 2; j++) x.joint(0, 0, -1000, 1000, 100);
        x.pace(0, 0, 10, 10);
        x.pace(0, 1, 12, 4);
        x.person(0, true);
        Due.program(x, 0, "to r: move 500, -500; end");
        x.open();
        x.reset(0);
        x.start(0, 0);
        x.run(3);
        x.stop(0);
        int[][] due = {{30, -32}, {30, -36}, {30, -36}};
        for (int i = 0; i < due.length; i++) {
            Due.is("it brakes as long as one does", x.state(0, 0), 2);
            x.run(1);
            Due.is("joint 0", x.value(0, 0), due[i][0]);
            Due.is("joint 1", x.value(0, 1), due[i][1]);
        }
        Due.is("it stands", x.state(0, 0), 0);
    }
}
