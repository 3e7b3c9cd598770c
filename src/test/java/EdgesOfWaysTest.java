/** Terms 9 and 10, promises 34 to 37, 39, 42: nodes, margins, refused plans and travels, and the book at its ends. */
public final class EdgesOfWaysTest {
    private static final int BAD = RobotCellHouse.BAD, NO = RobotCellHouse.NO, FULL = RobotCellHouse.FULL;

    public static void main(String[] args) {
        nodesFromItsValues();
        thousandNodes();
        nodesOnBothSides();
        exactMargin();
        everyValueOfAStep();
        othersMayTouch();
        itsOwnBodies();
        sparedOnTheWay();
        holdingOnTheWay();
        otherArmsAsTheyAre();
        armZeroInTheWay();
        upAheadOfDown();
        aroundAStep();
        notBeyondItsLimits();
        lastJointInTheWay();
        fewestThenFirst();
        aimsOfItsJoints();
        whatIsAskedFirst();
        noneOfTheSixty();
        whenTravelIsRefused();
        movesOfATravel();
        otherJointsStay();
        tripOnTheWay();
        noMoveOfATask();
        staleOnTheWay();
        wayOfEachArm();
        endsOfTheBook();
        backAndOn();
        backToAWay();
        Due.end();
    }

    private static RobotCellHouse turn(int low, int high) {
        RobotCellHouse x = new RobotCellHouse();
        x.person(0, true);
        x.arm(0, 0, 0, 0);
        x.joint(0, 0, low, high, 100);
        x.pace(0, 0, 2000, 2000);
        return x;
    }

    private static int planTo(RobotCellHouse x, int aim, int wide) {
        x.aim(0, aim);
        return x.plan(0, wide, 0);
    }

    private static void nodesFromItsValues() {
        RobotCellHouse x = turn(-7, 8);
        x.open();
        int[][] due = {{6, 2}, {-6, 2}, {0, 0}, {3, 1}, {7, NO}, {8, NO}, {9, NO}, {-7, NO}, {-9, NO}, {1, NO}};
        for (int[] d : due) Due.is("from 0 to " + d[0] + " by 3", planTo(x, d[0], 3), d[1]);
        x.hand(0, 0, 8);
        int[][] then = {{-7, 5}, {8, 0}, {-4, 4}, {5, 1}, {0, NO}, {-10, NO}, {11, NO}};
        for (int[] d : then) Due.is("from 8 to " + d[0] + " by 3", planTo(x, d[0], 3), d[1]);
        Due.is("by one", planTo(x, -7, 1), 15);
        Due.is("as wide as it can be", planTo(x, -7, 15), 1);
        Due.is("wider", planTo(x, -7, 16), NO);
        Due.is("where it is", planTo(x, 8, 16), 0);
    }

    private static int planOf(int wide, int... highs) {
        RobotCellHouse x = new RobotCellHouse();
        x.arm(0, 0, 0, 0);
        for (int high : highs) x.joint(0, 0, 0, high, 100);
        x.open();
        return x.plan(0, wide, 0);
    }

    private static void thousandNodes() {
        Due.is("1000 by one", planOf(1, 999), 0);
        Due.is("1001 by one", planOf(1, 1000), FULL);
        Due.is("1000 by two, and one over", planOf(2, 1999), 0);
        Due.is("1001 by two", planOf(2, 2000), FULL);
        Due.is("1000 by sixteen", planOf(16, 15999), 0);
        Due.is("1001 by sixteen", planOf(16, 16000), FULL);
        Due.is("25 by 40", planOf(1, 24, 39), 0);
        Due.is("11 by 91", planOf(1, 10, 90), FULL);
        Due.is("1 by 1000", planOf(1, 0, 999), 0);
        Due.is("7 by 11 by 13", planOf(1, 6, 10, 12), FULL);
        Due.is("10 by 10 by 10", planOf(1, 9, 9, 9), 0);
        Due.is("six joints of 3", planOf(1, 2, 2, 2, 2, 2, 2), 0);
        Due.is("six joints of 100001", planOf(1, 100000, 100000, 100000, 100000, 100000, 100000), FULL);
        // So many that they are 0 in 32 bits: 65536 by 65536.
        Due.is("wrapped around", planOf(1, 65535, 65535), FULL);
        Due.is("wrapped around by 16", planOf(16, 16 * 4095, 16 * 4095, 16 * 4095), FULL);
    }

    /** How many nodes there are depends on where the arm is. */
    private static void nodesOnBothSides() {
        RobotCellHouse x = turn(0, 999);
        x.open();
        x.hand(0, 0, 999);
        Due.is("1000 below it", planTo(x, 0, 1), 999);
        x.hand(0, 0, 500);
        Due.is("around it", planTo(x, 999, 1), 499);
        RobotCellHouse y = turn(-999, 0);
        y.open();
        y.hand(0, 0, -999);
        Due.is("1000 above it", planTo(y, 0, 1), 999);
        // From 0 there are 501 by two, from 1 there are 500.
        RobotCellHouse z = new RobotCellHouse();
        z.arm(0, 0, 0, 0);
        z.joint(0, 0, 0, 1000, 100);
        z.joint(0, 0, 0, 2, 100);
        z.open();
        Due.is("501 by two", z.plan(0, 2, 0), FULL);
        z.hand(0, 0, 1);
        z.aim(0, 1);
        Due.is("500 by two", z.plan(0, 2, 0), 0);
    }

    private static void exactMargin() {
        RobotCellHouse x = turn(0, 1024);
        x.ball(100, 50, 7);
        x.open();
        Due.is("43 from its first node", x.plan(0, 16, 42), 0);
        Due.is("no nearer", x.plan(0, 16, 43), NO);
    }

    /** A place beside the way is near from one value of the slide on, which may be any of a step. */
    private static void everyValueOfAStep() {
        for (int at = 1; at <= 16; at++) {
            RobotCellHouse probe = slide();
            probe.ball(500 + at, 1, 0);
            probe.open();
            probe.hand(0, 0, at);
            Due.is("it touches at " + at, probe.touches(0, 1), 1);
            probe.hand(0, 0, at - 1);
            Due.is("not ahead of it", probe.touches(0, 1), 0);
            probe.hand(0, 0, 0);
            probe.aim(0, 16);
            Due.is("by 16 to 16, touched from " + at + " on", probe.plan(0, 16, 1), NO);
            probe.aim(0, at - 1);
            Due.is("by one to " + (at - 1), probe.plan(0, 1, 1), at - 1);
            probe.aim(0, at);
            Due.is("by one to " + at, probe.plan(0, 1, 1), NO);
        }
    }

    private static RobotCellHouse slide() {
        RobotCellHouse x = new RobotCellHouse();
        x.arm(0, 0, 0, 0);
        x.joint(0, 1, 0, 16, 500);
        return x;
    }

    /** Pairs without a body of the arm do not count. */
    private static void othersMayTouch() {
        RobotCellHouse x = turn(0, 32);
        x.arm(3000, 0, 0, 0);
        x.joint(1, 0, 0, 0, 100);
        x.arm(3050, 0, 0, 0);
        x.joint(2, 0, 0, 0, 100);
        x.ball(3000, 0, 50);
        x.open();
        Due.is("arms 1 and 2 touch", x.touches(1, 0), 1);
        Due.is("a way of arm 0", planTo(x, 32, 16), 2);
        x.aim(0, 0);
        Due.is("no way of arm 1", x.plan(1, 16, 0), NO);
    }

    private static void itsOwnBodies() {
        RobotCellHouse y = new RobotCellHouse();
        y.arm(0, 0, 0, 0);
        y.joint(0, 0, 0, 0, 100);
        y.joint(0, 0, 0, 0, 0);
        y.joint(0, 1, -200, 0, 300);
        y.open();
        Due.is("body 2 begins where body 0 ends", y.plan(0, 16, 0), NO);
        RobotCellHouse z = new RobotCellHouse();
        z.arm(0, 0, 0, 0);
        z.joint(0, 0, 0, 0, 100);
        z.joint(0, 1, -40, 0, 50);
        z.joint(0, 0, 0, 0, 10);
        z.open();
        z.aim(1, -32);
        Due.is("18 between bodies 0 and 2", z.plan(0, 16, 17), 2);
        Due.is("no nearer", z.plan(0, 16, 18), NO);
    }

    private static void sparedOnTheWay() {
        for (int spared = 0; spared < 2; spared++) {
            RobotCellHouse x = turn(0, 64);
            x.ball(100, 5, 2);
            if (spared == 1) x.spare(0, 0, 0);
            x.open();
            Due.is("a ball on the way, spared " + spared, planTo(x, 64, 16), spared == 1 ? 4 : NO);
        }
    }

    private static void holdingOnTheWay() {
        RobotCellHouse x = turn(0, 64);
        x.lay(100, 0, 20);
        x.ball(130, 5, 2);
        Due.program(x, 0, "to r: grip; end");
        x.open();
        Due.is("without the part", planTo(x, 64, 16), 4);
        x.start(0, 0);
        x.run(1);
        Due.is("with it", planTo(x, 64, 16), 4);
        Due.is("with it and a margin of 7", x.plan(0, 16, 7), 4);
        Due.is("with it and a margin of 8", x.plan(0, 16, 8), NO);
    }

    private static void otherArmsAsTheyAre() {
        RobotCellHouse x = turn(0, 64);
        x.arm(103, 60, 3072, 0);
        x.joint(1, 1, -50, 0, 50);
        x.open();
        Due.is("another arm in the way", x.plan(0, 16, 3), 0);
        x.aim(0, 64);
        Due.is("it is in the way", x.plan(0, 16, 10), NO);
        x.hand(1, 0, -50);
        Due.is("drawn in it is not", x.plan(0, 16, 10), 4);
    }

    private static void armZeroInTheWay() {
        RobotCellHouse x = new RobotCellHouse();
        x.arm(203, 60, 3072, 0);
        x.joint(0, 1, -50, 0, 50);
        x.arm(100, 0, 0, 0);
        x.joint(1, 0, 0, 64, 100);
        x.open();
        Due.is("too near at its first node", x.plan(1, 16, 11), NO);
        x.aim(0, 64);
        Due.is("too near on its way", x.plan(1, 16, 10), NO);
        Due.is("near enough", x.plan(1, 16, 0), 4);
        x.hand(0, 0, -50);
        Due.is("drawn in", x.plan(1, 16, 11), 4);
    }

    private static void stepsAre(String what, RobotCellHouse x, int... due) {
        Due.is(what + ": how many", x.state(0, 5), due.length);
        for (int k = 0; k < due.length; k++) Due.is(what + ": step " + k, x.step(0, k), due[k]);
    }

    /** Two turns, stretched out towards a ball: joint 0 has to give way, up or down alike. */
    private static RobotCellHouse givesWay(int low, int high) {
        RobotCellHouse x = new RobotCellHouse();
        x.arm(0, 0, 0, 0);
        x.joint(0, 0, low, high, 1000);
        x.joint(0, 0, -32, 32, 1000);
        x.ball(2003, 0, 3);
        x.open();
        x.hand(0, 1, -32);
        x.aim(1, 32);
        return x;
    }

    private static void upAheadOfDown() {
        RobotCellHouse x = givesWay(-32, 32);
        Due.is("from -32 to 32", x.plan(0, 16, 0), 6);
        stepsAre("up, and down as soon as it may", x, 0, 2, 2, 2, 1, 2);
    }

    /** The straight step to a free node meets a ball half way: another one comes to that node all the same. */
    private static void aroundAStep() {
        RobotCellHouse x = new RobotCellHouse();
        x.arm(0, 0, 0, 0);
        x.joint(0, 1, -16, 0, 100);
        x.joint(0, 0, 0, 16, 7000);
        x.ball(7102, 86, 4);
        x.open();
        for (int v = 0; v <= 16; v++) {
            x.hand(0, 1, v);
            Due.is("touched at " + v, x.touches(0, 0), v == 8 ? 1 : 0);
        }
        x.hand(0, 1, 0);
        x.aim(1, 16);
        Due.is("drawn in, turned, drawn out", x.plan(0, 16, 0), 3);
        stepsAre("around it", x, 1, 2, 0);
        Due.is("by eight the node is touched", x.plan(0, 8, 0), 4);
        stepsAre("around the node", x, 1, 2, 2, 0);
    }

    private static void notBeyondItsLimits() {
        RobotCellHouse x = givesWay(-32, 0);
        Due.is("down alone", x.plan(0, 16, 0), 6);
        // At 16 its end would meet the ball on the way up: it has to turn on first.
        stepsAre("down, and up as soon as it may", x, 1, 2, 2, 2, 2, 0);
        RobotCellHouse y = givesWay(0, 0);
        Due.is("neither", y.plan(0, 16, 0), NO);
        RobotCellHouse z = givesWay(-15, 15);
        Due.is("not by a whole step", z.plan(0, 16, 0), NO);
    }

    /** Only joint 2 meets the ball: what is looked at is the arm with that joint on its way. */
    private static void lastJointInTheWay() {
        for (int up = 0; up < 2; up++) {
            RobotCellHouse x = new RobotCellHouse();
            x.arm(0, 0, 0, 0);
            x.joint(0, 0, 0, 0, 100);
            x.joint(0, 0, 0, 0, 100);
            x.joint(0, 0, -64, 64, 100);
            x.ball(300, up == 1 ? 5 : -5, 2);
            x.open();
            x.aim(2, 64);
            Due.is("joint 2 up", x.plan(0, 16, 0), up == 1 ? NO : 4);
            x.aim(2, -64);
            Due.is("joint 2 down", x.plan(0, 16, 0), up == 1 ? 4 : NO);
        }
    }

    /** Of ways of as few steps the first one: joint 0 up, joint 0 down, joint 1 up, joint 1 down. */
    private static void fewestThenFirst() {
        int[][] aims = {{2, 2}, {-2, 2}, {2, -2}, {-2, -2}};
        int[][] steps = {{0, 0, 2, 2}, {1, 1, 2, 2}, {0, 0, 3, 3}, {1, 1, 3, 3}};
        for (int i = 0; i < aims.length; i++) {
            RobotCellHouse x = new RobotCellHouse();
            x.arm(0, 0, 0, 0);
            for (int j = 0; j < 2; j++) x.joint(0, 0, -2, 2, 100);
            x.open();
            x.aim(0, aims[i][0]);
            x.aim(1, aims[i][1]);
            Due.is("steps", x.plan(0, 1, 0), 4);
            for (int k = 0; k < 4; k++) Due.is("step " + k + " of way " + i, x.step(0, k), steps[i][k]);
        }
        RobotCellHouse six = new RobotCellHouse();
        six.arm(0, 0, 0, 0);
        for (int j = 0; j < 6; j++) six.joint(0, 0, -1, 1, 100);
        six.open();
        for (int j = 0; j < 6; j++) six.aim(j, j % 2 == 0 ? -1 : 1);
        Due.is("six joints", six.plan(0, 1, 0), 6);
        int[] due = {1, 2, 5, 6, 9, 10};
        for (int k = 0; k < 6; k++) Due.is("step " + k + " of six", six.step(0, k), due[k]);
        for (int j = 0; j < 6; j++) six.aim(j, j % 2 == 0 ? 1 : -1);
        Due.is("six joints, the other way", six.plan(0, 1, 0), 6);
        stepsAre("six joints, the other way", six, 0, 3, 4, 7, 8, 11);
    }

    /** Aims of joints that the arm has not do not count. */
    private static void aimsOfItsJoints() {
        RobotCellHouse x = turn(0, 32);
        x.open();
        x.aim(1, 999999);
        x.aim(5, -1);
        Due.is("one joint", planTo(x, 32, 16), 2);
        RobotCellHouse y = new RobotCellHouse();
        y.arm(0, 0, 0, 0);
        y.open();
        y.aim(0, 77);
        Due.is("no joint", y.plan(0, 1, 0), 0);
        Due.is("its way", y.state(0, 5), 0);
        Due.is("its first step", y.step(0, 0), BAD);
    }

    private static RobotCellHouse goingWithManyNodes() {
        RobotCellHouse x = turn(0, 5000);
        x.pace(0, 0, 10, 5);
        Due.program(x, 0, "to r: move 5000; end");
        x.open();
        x.reset(0);
        x.start(0, 0);
        x.run(3);
        return x;
    }

    private static void whatIsAskedFirst() {
        RobotCellHouse x = goingWithManyNodes();
        Due.is("it goes: NO ahead of FULL", x.plan(0, 1, 0), NO);
        Due.is("BAD ahead of NO", x.plan(0, 0, 0), BAD);
        x.stop(0);
        Due.is("it brakes", x.state(0, 0), 2);
        Due.is("it brakes: NO ahead of FULL", x.plan(0, 1, 0), NO);
        x.run(9);
        x.aim(0, -1);
        Due.is("it stands: FULL ahead of the aims", x.plan(0, 1, 0), FULL);
        Due.is("with fewer nodes the aims", x.plan(0, 16, 0), NO);
        RobotCellHouse y = turn(0, 5000);
        Due.is("a built cell: NO ahead of FULL", y.plan(0, 1, 0), NO);
        Due.is("a built cell: BAD ahead of NO", y.plan(0, 17, 0), BAD);
    }

    private static void noneOfTheSixty() {
        RobotCellHouse x = goingWithManyNodes();
        for (int i = 0; i < 70; i++) Due.is("plan of an arm that goes", x.plan(0, 16, 0), NO);
        for (int i = 0; i < 70; i++) Due.is("a wrong plan", x.plan(0, 16, -1), BAD);
        x.stop(-1);
        x.hand(0, 0, 0);
        for (int i = 0; i < 70; i++) Due.is("too many nodes", x.plan(0, 1, 0), FULL);
        for (int i = 0; i < 20; i++) Due.is("no aim", planTo(x, -1, 16), NO);
        for (int i = 0; i < 20; i++) Due.is("no node", planTo(x, 1, 16), NO);
        for (int i = 0; i < 19; i++) Due.is("plan " + i, planTo(x, 0, 16), 0);
        Due.is("the 60th", planTo(x, 48, 16), 3);
        Due.is("the 61st", x.plan(0, 16, 0), FULL);
        Due.is("it has its way", x.state(0, 5), 3);
        Due.is("its last step", x.step(0, 2), 0);
        x.aim(0, -1);
        Due.is("FULL ahead of the aims", x.plan(0, 16, 0), FULL);
    }

    private static RobotCellHouse withWay() {
        RobotCellHouse x = turn(-100, 100);
        x.arm(5000, 0, 0, 0);
        x.joint(1, 0, -100, 100, 100);
        x.lay(5100, 0, 1);
        Due.program(x, 0, "to r: raise 1; end to m: move 0; end");
        Due.program(x, 1, "to r: raise 1; end to g: grip; end to d: grip; drop; end to m: move 10; end");
        x.open();
        Due.is("a way", planTo(x, 32, 16), 2);
        return x;
    }

    private static void whenTravelIsRefused() {
        RobotCellHouse x = withWay();
        Due.is("no power", x.travel(0), NO);
        x.reset(0);
        Due.is("no way", x.travel(1), NO);
        x.start(1, 0);
        x.run(1);
        Due.is("a task of another arm is FAULTED", x.travel(0), 1);
        Due.is("it does not stand", x.travel(0), NO);
        RobotCellHouse y = withWay();
        y.reset(0);
        y.start(0, 0);
        y.run(1);
        Due.is("one of its tasks is FAULTED", y.travel(0), NO);
        y.acknowledge(0);
        Due.is("acknowledged", y.travel(0), 1);
        int[] routines = {1, 2, 3};
        for (int r : routines) {
            RobotCellHouse z = withWay();
            z.reset(0);
            z.start(1, r);
            z.run(1);
            Due.is("not fresh by routine " + r, z.travel(0), NO);
            Due.is("not fresh", z.state(0, 6), 0);
            Due.is("it has its way", z.state(0, 5), 2);
            z.run(5);
            Due.is("fresh anew", planTo(z, 32, 16), 2);
            Due.is("travel", z.travel(0), 1);
        }
        RobotCellHouse w = withWay();
        w.reset(0);
        w.start(0, 1);
        w.run(1);
        Due.is("a move that changes nothing", w.travel(0), 1);
    }

    private static int movesTo(int first, int second) {
        RobotCellHouse x = new RobotCellHouse();
        x.person(0, true);
        x.arm(0, 0, 0, 0);
        for (int j = 0; j < 2; j++) x.joint(0, 0, -64, 64, 100);
        x.open();
        x.reset(0);
        x.aim(0, first);
        x.aim(1, second);
        x.plan(0, 16, 0);
        int moves = x.travel(0);
        int rows = x.count(6);
        x.run(200);
        Due.is("joint 0", x.value(0, 0), first);
        Due.is("joint 1", x.value(0, 1), second);
        Due.is("an event for each move", x.events(), 1 + moves);
        Due.is("rows", rows, 5);
        Due.is("never(1) and never(2)", x.never(1) + x.never(2), 0);
        return moves;
    }

    private static void movesOfATravel() {
        Due.is("no steps", movesTo(0, 0), 0);
        Due.is("one step", movesTo(16, 0), 1);
        Due.is("four steps alike", movesTo(-64, 0), 1);
        Due.is("of both joints", movesTo(64, -64), 2);
        Due.is("one and four", movesTo(-16, 64), 2);
    }

    /** A joint without steps stays where a hand, or a broken move, has left it. */
    private static void otherJointsStay() {
        RobotCellHouse x = new RobotCellHouse();
        x.person(0, true);
        x.arm(0, 0, 0, 0);
        for (int j = 0; j < 6; j++) x.joint(0, 0, -20, 20, 100);
        x.open();
        int[] values = {1, -2, 3, -4, 5, -6};
        for (int moved = 0; moved < 6; moved++) {
            x.back(0);
            for (int j = 0; j < 6; j++) x.hand(0, j, values[j]);
            for (int j = 0; j < 6; j++) x.aim(j, values[j] + (j == moved ? 14 : 0));
            x.plan(0, 14, 0);
            x.reset(0);
            Due.is("travel", x.travel(0), 1);
            x.run(9);
            for (int j = 0; j < 6; j++) Due.is("joint " + j, x.value(0, j), values[j] + (j == moved ? 14 : 0));
        }
    }

    /** A travel is no move of a task: that it is broken is no error of task 0. */
    private static void noMoveOfATask() {
        RobotCellHouse x = turn(-100, 100);
        Due.program(x, 0, "to r: wait 3; note 1; end");
        x.open();
        x.reset(0);
        planTo(x, 96, 16);
        x.travel(0);
        x.start(0, 0);
        x.run(1);
        x.stop(0);
        x.run(4);
        Due.eventsAre("a broken travel", x, "0:3(0,0) 1:9(0,0) 4:1(0,1) 4:4(0,0)");
    }

    private static void tripOnTheWay() {
        RobotCellHouse x = withWay();
        x.reset(0);
        x.travel(0);
        x.run(1);
        Due.is("it travels", x.state(0, 7), 1);
        x.stop(-1);
        Due.is("it travels no more", x.state(0, 7), 0);
        Due.is("it stands", x.state(0, 0), 0);
        Due.is("its way stays", x.state(0, 5), 2);
        Due.eventsAre("a trip on the way", x, "0:3(0,0) 1:2(4,0) 1:9(0,0)");
        x.reset(0);
        x.run(5);
        Due.is("nothing goes on", x.value(0, 0), 32);
    }

    /** A travel goes on though its way is not fresh any more; its own joints make it so. */
    private static void staleOnTheWay() {
        RobotCellHouse x = turn(-100, 100);
        x.pace(0, 0, 8, 8);
        x.arm(5000, 0, 0, 0);
        x.joint(1, 0, -100, 100, 100);
        Due.program(x, 1, "to m: move 10; end");
        x.open();
        x.reset(0);
        planTo(x, 32, 16);
        x.travel(0);
        Due.is("fresh till it moves", x.state(0, 6), 1);
        x.run(1);
        Due.is("then not", x.state(0, 6), 0);
        x.start(1, 0);
        x.run(4);
        Due.is("at its end", x.value(0, 0), 32);
        Due.is("it stands", x.state(0, 0), 0);
    }

    private static void wayOfEachArm() {
        RobotCellHouse x = withWay();
        x.aim(0, -48);
        Due.is("a way of arm 1", x.plan(1, 16, 0), 3);
        Due.is("steps of arm 0", x.state(0, 5), 2);
        Due.is("steps of arm 1", x.state(1, 5), 3);
        Due.is("step of arm 0", x.step(0, 1), 0);
        Due.is("step of arm 1", x.step(1, 2), 1);
        Due.is("no third step of arm 0", x.step(0, 2), BAD);
        x.aim(0, 16);
        Due.is("another way of arm 0", x.plan(0, 16, 0), 1);
        Due.is("in place of the old one", x.step(0, 1), BAD);
        Due.is("that of arm 1 stays", x.step(1, 2), 1);
        x.build();
        x.arm(0, 0, 0, 0);
        Due.is("no way behind build()", x.state(0, 5), -1);
        Due.is("no step behind build()", x.step(0, 0), BAD);
    }

    private static void endsOfTheBook() {
        RobotCellHouse x = new RobotCellHouse();
        x.open();
        Due.is("no rows", x.back(0), 0);
        Due.is("one row too many", x.back(1), BAD);
        Due.is("less than none", x.back(-1), BAD);
        for (int i = 1; i <= 300; i++) x.set(0, i);
        Due.is("300 rows", x.count(6), 300);
        Due.is("one more than there are", x.back(301), BAD);
        Due.is("all", x.back(300), 0);
        Due.is("as it was", x.signal(0, 1), 300);
        Due.is("all but one", x.back(299), 0);
        Due.is("the last is gone", x.signal(0, 1), 299);
        Due.is("rows", x.count(6), 299);
        Due.is("it is gone for good", x.back(300), BAD);
        Due.is("none", x.back(0), 0);
        Due.is("as at open()", x.signal(0, 1), 0);
        Due.is("no rises", x.signal(0, 2), 0);
        x.build();
        Due.is("of a built cell", x.back(0), NO);
        Due.is("BAD is named ahead of it", x.back(1), BAD);
        x.open();
        Due.is("no rows of a new cell", x.count(6), 0);
    }

    /** Other calls behind back() take the place of those that are gone. */
    private static void backAndOn() {
        RobotCellHouse x = withWay();
        x.reset(0);
        x.travel(0);
        x.run(1);
        x.run(4);
        Due.is("at its end", x.value(0, 0), 32);
        Due.is("rows", x.count(6), 6);
        Due.is("back ahead of its end", x.back(5), 1);
        Due.is("it travels", x.state(0, 7), 1);
        x.stop(0);
        x.run(4);
        Due.is("other events", x.event(x.events() - 1, 1), 9);
        Due.is("rows then", x.count(6), 7);
        Due.is("the tick", x.time(), 5);
        Due.is("back to the stop", x.back(6), 1);
        Due.is("it brakes", x.state(0, 0), 2);
        Due.is("back to the plan", x.back(2), 0);
        Due.is("power is off", x.safety(0), 0);
        Due.is("no events", x.events(), 0);
        Due.is("its way is fresh", x.state(0, 6), 1);
        Due.is("back to the aim", x.back(1), 0);
        Due.is("no way", x.state(0, 5), -1);
        Due.is("the aim is as it was", x.plan(0, 16, 0), 2);
    }

    /** The way is that of the plan of these rows, though others were planned since. */
    private static void backToAWay() {
        RobotCellHouse x = withWay();
        Due.is("a second way", planTo(x, -48, 16), 3);
        Due.is("a third way", planTo(x, 64, 8), 8);
        Due.is("back to the second", x.back(4), 0);
        Due.is("its steps", x.state(0, 5), 3);
        Due.is("its last step", x.step(0, 2), 1);
        x.reset(0);
        Due.is("it is fresh", x.travel(0), 1);
        x.run(20);
        Due.is("its end", x.value(0, 0), -48);
        Due.is("back to the first", x.back(2), 0);
        Due.is("its steps then", x.state(0, 5), 2);
        Due.is("its last step then", x.step(0, 1), 0);
    }
}
