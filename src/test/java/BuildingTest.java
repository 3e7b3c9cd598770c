/** Promises 1 to 21, 24, 52: the tape and what a cell is built of. */
public final class BuildingTest {
    private static final int BAD = RobotCellHouse.BAD, NO = RobotCellHouse.NO, FULL = RobotCellHouse.FULL;
    private static final int MIN = Integer.MIN_VALUE, MAX = Integer.MAX_VALUE;

    public static void main(String[] args) {
        newObject();
        tape();
        build();
        nothingIsLeft();
        touchesAnew();
        arms();
        joints();
        paceAndRadius();
        solids();
        spared();
        belts();
        parts();
        zones();
        inputsAndPersons();
        wires();
        nothingWhenOpen();
        Due.end();
    }

    private static void newObject() {
        RobotCellHouse x = new RobotCellHouse();
        for (int what = 0; what <= 8; what++) Due.is("count(" + what + ") of a new one", x.count(what), 0);
        Due.is("count(-1)", x.count(-1), BAD);
        Due.is("count(9)", x.count(9), BAD);
        Due.is("time() of a new one", x.time(), 0);
        Due.is("events() of a new one", x.events(), 0);
        Due.is("fault(0) before any", x.fault(0), BAD);
        Due.is("safety(0) of a new one", x.safety(0), 0);
        Due.is("task(0, 0) of a new one", x.task(0, 0), 0);
        Due.is("task(0, 1) of a new one", x.task(0, 1), -1);
        Due.is("lock(7) of a new one", x.lock(7), -1);
        Due.is("run(1) before open()", x.run(1), NO);
    }

    private static void tape() {
        RobotCellHouse x = new RobotCellHouse();
        Due.is("cut(0) of nothing", x.cut(0), 0);
        Due.is("cut(1) of nothing", x.cut(1), BAD);
        for (int i = 1; i <= 200; i++) Due.is("feed " + i, x.feed(0, 0, 0, 0, 0), 20 * i);
        Due.is("feed beyond 4000", x.feed(1, 2, 3, 4, 5), FULL);
        Due.is("count(7)", x.count(7), 4000);
        Due.is("cut(1)", x.cut(1), 3999);
        Due.is("feed beyond 4000 by one byte less", x.feed(0, 0, 0, 0, 0), FULL);
        Due.is("cut(18)", x.cut(18), 3981);
        Due.is("feed beyond 4000 by one byte", x.feed(0, 0, 0, 0, 0), FULL);
        Due.is("cut(1) again", x.cut(1), 3980);
        Due.is("feed up to 4000", x.feed(0, 0, 0, 0, 0), 4000);
        Due.is("cut(-1)", x.cut(-1), BAD);
        Due.is("cut(4001)", x.cut(4001), BAD);
        Due.is("cut(4000)", x.cut(4000), 0);
        x.arm(0, 0, 0, 0);
        // The highest byte comes first: "to a:end", and blanks.
        Due.is("feed of a text", x.feed(0x746f2061, 0x3a656e64, 0x20202020, 0x20202020, 0x20202020), 20);
        Due.is("program of it", x.program(0), 1);
        Due.is("tape behind program()", x.count(7), 0);
        x.feed(0x746f2061, 0x3a656e64, 0x20202020, 0x20202020, 0x20202080);
        Due.is("place of a last byte that is no token", x.program(0), -10 - 19);
        x.feed(0, 0, 0, 0, 0);
        x.open();
        Due.is("tape of an open cell", x.feed(0, 0, 0, 0, 0), 40);
        x.build();
        Due.is("tape behind build()", x.count(7), 40);
    }

    private static void build() {
        RobotCellHouse x = new RobotCellHouse();
        x.arm(1, 2, 3, 4);
        x.joint(0, 0, -5, 5, 10);
        x.ball(0, 0, 1);
        x.belt(0, 0, 0, 10, 0);
        x.part(0, 1, 2);
        x.zone(0, 0, 0, 1, 1);
        x.input(3);
        x.person(2, true);
        x.wire(0, 1, true);
        x.open();
        x.run(7);
        x.set(5, 6);
        Due.is("build() of an open cell", x.build(), 7);
        for (int what = 0; what <= 8; what++) Due.is("count(" + what + ") behind build()", x.count(what), 0);
        Due.is("time() behind build()", x.time(), 0);
        Due.is("a wire behind build()", x.signal(1, 0), 0);
        Due.is("an own number behind build()", x.signal(5, 1), 0);
        Due.is("build() of nothing", x.build(), 0);
        x.arm(0, 0, 0, 0);
        Due.is("joints of a new arm", x.state(0, 1), 0);
        x.open();
        Due.is("a person behind build()", x.reset(2), NO);
    }

    /** What a cell was built of, and what happened in it, is not in the next one. */
    private static void nothingIsLeft() {
        RobotCellHouse x = new RobotCellHouse();
        x.arm(0, 0, 0, 9);
        x.joint(0, 0, 0, 0, 100);
        x.radius(0, 0, 7);
        x.pace(0, 0, 2000, 2000);
        x.ball(50, 0, 5);
        x.spare(0, 0, 0);
        x.belt(0, 0, 0, 900, 9);
        x.drive(0, 50);
        x.sensor(0, 3, 0, 900);
        for (int p = 0; p < 32; p++) x.part(0, 20 * p, 1);
        x.zone(0, 500, 500, 1, 1);
        x.most(0, 9);
        x.input(7);
        for (int p = 0; p < 8; p++) x.person(p, true);
        x.wire(0, 1, true);
        Due.program(x, 0, "var a; to r: end");
        x.open();
        x.force(2, 5, true);
        x.channel(0, true, false);
        x.aim(0, 4);
        x.run(9);
        Due.is("build()", x.build(), 9);
        x.arm(0, 0, 0, 0);
        Due.is("program", x.state(0, 4), 0);
        Due.is("variable", x.variable(0, 0), BAD);
        x.joint(0, 0, 0, 0, 100);
        x.ball(50, 0, 5);
        Due.is("nothing is spared", x.touches(0, 0), 1);
        Due.is("spare", x.spare(0, 0, 0), 1);
        Due.is("radius", x.radius(0, 0, 0), 0);
        x.belt(5, 0, 0, 900, 9);
        Due.is("drive", x.drive(0, 0), 0);
        Due.is("part", x.part(0, 44, 1), 0);
        Due.is("its belt", x.about(0, 0), 0);
        Due.is("its way", x.about(0, 3), 44);
        x.zone(0, 500, 500, 1, 1);
        Due.is("most", x.most(0, -1), -1);
        x.input(0);
        Due.is("the input", x.safety(4), 1);
        Due.is("a wire", x.wire(2, 1, false), 0);
        x.open();
        for (int p = 0; p < 8; p++) Due.is("reset by " + p, x.reset(p), NO);
        Due.is("a force", x.signal(2, 0), 0);
        x.run(1);
        Due.is("a sensor", x.signal(3, 0), 0);
        Due.is("the aims", x.plan(0, 1, 0), 0);
    }

    /** That no pair touched in the old cell says nothing of the new one. */
    private static void touchesAnew() {
        RobotCellHouse x = new RobotCellHouse();
        for (int time = 0; time < 2; time++) {
            x.build();
            x.person(0, true);
            x.arm(0, 0, 0, 0);
            x.joint(0, 0, 0, 0, 100);
            x.ball(100, 50 - 50 * time, 5);
            x.open();
            x.reset(0);
            x.run(1);
            Due.is("power in cell " + time, x.safety(0), 1 - time);
        }
    }

    private static void arms() {
        RobotCellHouse x = new RobotCellHouse();
        int[][] wrong = {{-8001, 0, 0, 0}, {8001, 0, 0, 0}, {0, -8001, 0, 0}, {0, 8001, 0, 0}, {0, 0, -1, 0},
            {0, 0, 4096, 0}, {0, 0, 0, -1}, {0, 0, 0, 801}, {MIN, 0, 0, 0}, {0, MAX, 0, 0}};
        for (int[] w : wrong) Due.is("a wrong arm", x.arm(w[0], w[1], w[2], w[3]), BAD);
        Due.is("arm 0", x.arm(-8000, 8000, 0, 0), 0);
        Due.is("arm 1", x.arm(8000, -8000, 4095, 800), 1);
        Due.is("arm 2", x.arm(0, 0, 0, 0), 2);
        Due.is("arm 3", x.arm(0, 0, 0, 0), 3);
        Due.is("arm 4", x.arm(0, 0, 0, 0), FULL);
        Due.is("a wrong arm 4", x.arm(0, 0, 0, 801), BAD);
        Due.is("count(0)", x.count(0), 4);
        Due.is("base x", x.point(0, 0, 0), -8000);
        Due.is("base y", x.point(1, 0, 1), -8000);
    }

    private static void joints() {
        RobotCellHouse x = new RobotCellHouse();
        x.arm(0, 0, 0, 0);
        int[][] wrong = {{1, 0, 0, 0, 0}, {-1, 0, 0, 0, 0}, {0, -1, 0, 0, 0}, {0, 2, 0, 0, 0}, {0, 0, 1, 1, 0},
            {0, 0, -100001, 0, 0}, {0, 0, 0, -1, 0}, {0, 0, 0, 100001, 0}, {0, 0, 0, 0, -1}, {0, 0, 0, 0, 8001},
            {0, 1, -8001, 0, 8000}, {0, 1, 0, 8001, 0}, {0, 1, -1, 0, 0}, {0, 1, 0, 1, 8000}, {0, 0, 0, 0, MAX},
            {0, 1, MIN, MAX, MAX}};
        for (int[] w : wrong) Due.is("a wrong joint", x.joint(w[0], w[1], w[2], w[3], w[4]), BAD);
        Due.is("the longest turn", x.joint(0, 0, -100000, 100000, 7990), 0);
        Due.is("a slide with length and high", x.joint(0, 1, -4, 3, 8), BAD);
        Due.is("a slide up to 8000 together", x.joint(0, 1, -4, 4, 4), 1);
        Due.is("a turn adds no high", x.joint(0, 0, 0, 100000, 2), 2);
        Due.is("one eighth more", x.joint(0, 0, 0, 0, 1), BAD);
        for (int j = 3; j < 6; j++) Due.is("joint " + j, x.joint(0, 0, 0, 0, 0), j);
        Due.is("joint 6", x.joint(0, 0, 0, 0, 0), FULL);
        Due.is("joint 6 that is too long", x.joint(0, 0, 0, 0, 1), BAD);
        Due.is("state(0, 1)", x.state(0, 1), 6);
        Due.is("a joint's value at first", x.value(0, 5), 0);
        Due.is("value of joint 6", x.value(0, 6), BAD);
        Due.is("value of joint -1", x.value(0, -1), BAD);
        Due.is("value of no arm", x.value(1, 0), BAD);
    }

    private static void paceAndRadius() {
        RobotCellHouse x = new RobotCellHouse();
        x.arm(0, 0, 0, 0);
        x.joint(0, 0, -500, 500, 100);
        int[][] wrong = {{0, 0, 0, 1}, {0, 0, 2001, 1}, {0, 0, 1, 0}, {0, 0, 1, 2001}, {0, 1, 1, 1}, {0, -1, 1, 1},
            {1, 0, 1, 1}, {-1, 0, 1, 1}};
        for (int[] w : wrong) Due.is("a wrong pace", x.pace(w[0], w[1], w[2], w[3]), BAD);
        Due.is("pace", x.pace(0, 0, 1, 2000), 0);
        Due.is("pace again", x.pace(0, 0, 2000, 1), 0);
        Due.is("radius at first", x.radius(0, 0, 7), 0);
        Due.is("radius then", x.radius(0, 0, 800), 7);
        Due.is("radius of -1", x.radius(0, 0, -1), BAD);
        Due.is("radius of 801", x.radius(0, 0, 801), BAD);
        Due.is("radius of no joint", x.radius(0, 1, 1), BAD);
        Due.is("radius of no arm", x.radius(-1, 0, 1), BAD);
        Due.is("radius as it was", x.radius(0, 0, 0), 800);
        // SPEED 100 and GAIN 10 at first: 10, 20, 30 .. towards the goal.
        RobotCellHouse y = new RobotCellHouse();
        y.arm(0, 0, 0, 0);
        y.joint(0, 0, 0, 5000, 100);
        y.person(0, true);
        Due.program(y, 0, "to a: move 5000; end");
        y.open();
        y.reset(0);
        y.start(0, 0);
        int[] due = {10, 30, 60, 100, 150, 210, 280, 360, 450, 550, 650, 750};
        for (int v : due) {
            y.run(1);
            Due.is("a joint with its first pace", y.value(0, 0), v);
        }
    }

    private static void solids() {
        RobotCellHouse x = new RobotCellHouse();
        int[][] balls = {{-16001, 0, 0}, {16001, 0, 0}, {0, -16001, 0}, {0, 16001, 0}, {0, 0, -1}, {0, 0, 8001}};
        for (int[] b : balls) Due.is("a wrong ball", x.ball(b[0], b[1], b[2]), BAD);
        int[][] boxes = {{-16001, 0, 0, 0}, {0, 16001, 0, 0}, {0, 0, -1, 0}, {0, 0, 0, -1}, {1, 0, 16000, 0},
            {0, 1, 0, 16000}, {0, 0, MAX, 0}, {0, 0, 0, MAX}, {16000, 0, MAX, 0}};
        for (int[] b : boxes) Due.is("a wrong box", x.box(b[0], b[1], b[2], b[3]), BAD);
        for (int i = 0; i < 16; i++) {
            int got = i % 2 == 0 ? x.ball(-16000, 16000, 8000) : x.box(-16000, -16000, 32000, 32000);
            Due.is("solid " + i, got, i);
        }
        Due.is("ball 16", x.ball(0, 0, 0), FULL);
        Due.is("box 16", x.box(0, 0, 0, 0), FULL);
        Due.is("a wrong ball 16", x.ball(0, 0, -1), BAD);
        Due.is("count(1)", x.count(1), 16);
    }

    private static void spared() {
        RobotCellHouse x = new RobotCellHouse();
        x.arm(0, 0, 0, 0);
        Due.is("spare without a solid", x.spare(0, 0, 0), BAD);
        x.joint(0, 0, 0, 0, 100);
        x.ball(50, 0, 10);
        x.ball(60, 0, 10);
        Due.is("touches both", x.touches(0, 0), 1);
        Due.is("spare", x.spare(0, 0, 0), 1);
        Due.is("spare again", x.spare(0, 0, 0), 0);
        Due.is("touches the other", x.touches(0, 0), 1);
        Due.is("spare the other", x.spare(0, 0, 1), 1);
        Due.is("touches none", x.touches(0, 0), 0);
        Due.is("a body that is not there", x.spare(0, 6, 1), 1);
        Due.is("body 7", x.spare(0, 7, 1), BAD);
        Due.is("body -1", x.spare(0, -1, 1), BAD);
        Due.is("solid 2", x.spare(0, 0, 2), BAD);
        Due.is("solid -1", x.spare(0, 0, -1), BAD);
        Due.is("arm 1", x.spare(1, 0, 0), BAD);
    }

    private static void belts() {
        RobotCellHouse x = new RobotCellHouse();
        int[][] wrong = {{-16001, 0, 0, 0, 0}, {0, 16001, 0, 0, 0}, {0, 0, -1, 0, 0}, {0, 0, 4, 0, 0},
            {0, 0, 0, -1, 0}, {0, 0, 0, 16001, 0}, {0, 0, 0, 0, -1}, {0, 0, 0, 0, 2001}, {1, 0, 0, 16000, 0},
            {0, 1, 1, 16000, 0}, {-1, 0, 2, 16000, 0}, {0, -1, 3, 16000, 0}, {0, 0, 0, MAX, 0}};
        for (int[] w : wrong) Due.is("a wrong belt", x.belt(w[0], w[1], w[2], w[3], w[4]), BAD);
        Due.is("drive without a belt", x.drive(0, 0), BAD);
        for (int b = 0; b < 4; b++) Due.is("belt " + b, x.belt(0, 0, b, 16000, 2000), b);
        Due.is("belt 4", x.belt(0, 0, 0, 0, 0), FULL);
        Due.is("a wrong belt 4", x.belt(0, 0, 4, 0, 0), BAD);
        Due.is("drive at first", x.drive(3, 100), 0);
        Due.is("drive then", x.drive(3, 0), 100);
        Due.is("drive -1", x.drive(0, -1), BAD);
        Due.is("drive 101", x.drive(0, 101), BAD);
        Due.is("drive belt 4", x.drive(4, 0), BAD);
        int[][] sensors = {{4, 0, 0, 0}, {-1, 0, 0, 0}, {0, -1, 0, 0}, {0, 64, 0, 0}, {0, 0, -1, 0}, {0, 0, 5, 4}};
        for (int[] s : sensors) Due.is("a wrong sensor", x.sensor(s[0], s[1], s[2], s[3]), BAD);
        Due.is("sensor", x.sensor(0, 0, 0, 0), 0);
        Due.is("sensor in its place", x.sensor(0, 63, 5, MAX), 0);
        Due.is("count(2)", x.count(2), 4);
    }

    private static void parts() {
        RobotCellHouse x = new RobotCellHouse();
        Due.is("part without a belt", x.part(0, 0, 0), BAD);
        x.belt(100, 200, 3, 500, 10);
        int[][] wrong = {{1, 0, 0}, {-1, 0, 0}, {0, -1, 0}, {0, 501, 0}, {0, 0, -1}, {0, 0, 801}};
        for (int[] w : wrong) Due.is("a wrong part", x.part(w[0], w[1], w[2]), BAD);
        int[][] places = {{-16001, 0, 0}, {16001, 0, 0}, {0, -16001, 0}, {0, 16001, 0}, {0, 0, -1}, {0, 0, 801}};
        for (int[] p : places) Due.is("a wrong lay", x.lay(p[0], p[1], p[2]), BAD);
        Due.is("part 0", x.part(0, 500, 800), 0);
        Due.is("lay 1", x.lay(-16000, 16000, 0), 1);
        Due.is("part 0 is on the belt", x.about(0, 0), 0);
        Due.is("part 0 x", x.about(0, 1), 100);
        Due.is("part 0 y", x.about(0, 2), -300);
        Due.is("part 0 s", x.about(0, 3), 500);
        Due.is("part 1 lies", x.about(1, 0), 8);
        Due.is("part 1 x", x.about(1, 1), -16000);
        Due.is("part 1 y", x.about(1, 2), 16000);
        Due.is("part 1 s", x.about(1, 3), 0);
        Due.is("about(1, 4)", x.about(1, 4), BAD);
        Due.is("about(1, -1)", x.about(1, -1), BAD);
        Due.is("about(2, 0)", x.about(2, 0), BAD);
        Due.is("about(-1, 0)", x.about(-1, 0), BAD);
        for (int p = 2; p < 32; p++) Due.is("part " + p, p % 2 == 0 ? x.part(0, p, 1) : x.lay(0, 0, 1), p);
        Due.is("part 32", x.part(0, 0, 0), FULL);
        Due.is("lay 32", x.lay(0, 0, 0), FULL);
        Due.is("a wrong part 32", x.part(0, 501, 0), BAD);
        Due.is("count(3)", x.count(3), 32);
    }

    private static void zones() {
        RobotCellHouse x = new RobotCellHouse();
        Due.is("zone without an arm", x.zone(0, 0, 0, 0, 0), BAD);
        x.arm(0, 0, 0, 0);
        int[][] wrong = {{1, 0, 0, 0, 0}, {-1, 0, 0, 0, 0}, {0, -16001, 0, 0, 0}, {0, 0, 16001, 0, 0},
            {0, 0, 0, -1, 0}, {0, 0, 0, 0, -1}, {0, 1, 0, 16000, 0}, {0, 0, 1, 0, 16000}, {0, 0, 0, MAX, 0}};
        for (int[] w : wrong) Due.is("a wrong zone", x.zone(w[0], w[1], w[2], w[3], w[4]), BAD);
        for (int z = 0; z < 8; z++) Due.is("zone " + z, x.zone(0, -16000, 16000, 32000, 0), z);
        Due.is("zone 8", x.zone(0, 0, 0, 0, 0), FULL);
        Due.is("most at first", x.most(7, 0), -1);
        Due.is("most then", x.most(7, 32000), 0);
        Due.is("most of -2", x.most(7, -2), BAD);
        Due.is("most of 32001", x.most(7, 32001), BAD);
        Due.is("most of zone 8", x.most(8, 0), BAD);
        Due.is("most of zone -1", x.most(-1, 0), BAD);
        Due.is("most as it was", x.most(7, -1), 32000);
        Due.is("count(4)", x.count(4), 8);
    }

    private static void inputsAndPersons() {
        RobotCellHouse x = new RobotCellHouse();
        Due.is("input(-1)", x.input(-1), BAD);
        Due.is("input(1001)", x.input(1001), BAD);
        Due.is("safety of no input", x.safety(4), BAD);
        for (int i = 0; i < 8; i++) Due.is("input " + i, x.input(125 * i), i);
        Due.is("input 8", x.input(0), FULL);
        Due.is("a wrong input 8", x.input(1001), BAD);
        Due.is("count(5)", x.count(5), 8);
        for (int i = 0; i < 8; i++) Due.is("input " + i + " is well", x.safety(4 + i), 1);
        Due.is("safety(12)", x.safety(12), BAD);
        Due.is("safety(-1)", x.safety(-1), BAD);
        Due.is("person(-1)", x.person(-1, true), BAD);
        Due.is("person(8)", x.person(8, true), BAD);
        Due.is("person(0)", x.person(0, true), 0);
        Due.is("person(7)", x.person(7, true), 0);
        Due.is("person(0) no more", x.person(0, false), 0);
        x.open();
        Due.is("reset by 0", x.reset(0), NO);
        Due.is("reset by 1", x.reset(1), NO);
        Due.is("reset by 7", x.reset(7), 1);
    }

    private static void wires() {
        RobotCellHouse x = new RobotCellHouse();
        Due.is("wire from -1", x.wire(-1, 0, false), BAD);
        Due.is("wire from 64", x.wire(64, 0, false), BAD);
        Due.is("wire to -1", x.wire(0, -1, false), BAD);
        Due.is("wire to 64", x.wire(0, 64, false), BAD);
        Due.is("wire to itself", x.wire(5, 5, false), NO);
        for (int p = 0; p < 63; p++) Due.is("wire " + p, x.wire(p, p + 1, false), 0);
        Due.is("a second wire", x.wire(0, 63, false), NO);
        Due.is("a ring", x.wire(63, 0, true), NO);
        x.open();
        x.set(0, -7);
        Due.is("the end of the row", x.signal(63, 0), -7);
        Due.is("its rises", x.signal(63, 2), 1);
        Due.is("its own number", x.signal(63, 1), 0);
    }

    private static void nothingWhenOpen() {
        RobotCellHouse x = new RobotCellHouse();
        x.arm(0, 0, 0, 0);
        x.joint(0, 0, 0, 10, 10);
        x.ball(500, 500, 1);
        x.belt(0, 0, 0, 10, 10);
        x.zone(0, 900, 900, 1, 1);
        Due.program(x, 0, "to a: end");
        Due.is("open()", x.open(), 1);
        Due.is("open() again", x.open(), NO);
        int[] got = {x.arm(0, 0, 0, 0), x.joint(0, 0, 0, 0, 0), x.pace(0, 0, 1, 1), x.radius(0, 0, 1), x.ball(0, 0, 0),
            x.box(0, 0, 0, 0), x.spare(0, 0, 0), x.belt(0, 0, 0, 0, 0), x.drive(0, 1), x.sensor(0, 0, 0, 0),
            x.part(0, 0, 0), x.lay(0, 0, 0), x.zone(0, 0, 0, 0, 0), x.most(0, 0), x.input(0), x.person(0, true),
            x.wire(0, 1, true), x.program(0), x.fault(0)};
        for (int i = 0; i < got.length; i++) Due.is("building call " + i + " of an open cell", got[i], NO);
        Due.is("BAD is named ahead of NO", x.arm(9000, 0, 0, 0), BAD);
        Due.is("count(0)", x.count(0), 1);
        Due.is("count(8)", x.count(8), 1);
        RobotCellHouse y = new RobotCellHouse();
        y.arm(0, 0, 0, 0);
        y.joint(0, 0, 0, 10, 10);
        y.input(0);
        Due.program(y, 0, "to a: end");
        int[] not = {y.start(0, 0), y.run(1), y.set(0, 0), y.force(0, 0, true), y.channel(0, true, true), y.reset(0),
            y.stop(0), y.stop(-1), y.acknowledge(0), y.hand(0, 0, 0), y.aim(0, 0), y.plan(0, 1, 0), y.travel(0),
            y.back(0)};
        for (int i = 0; i < not.length; i++) Due.is("call " + i + " of a cell that is not open", not[i], NO);
        Due.is("BAD is named ahead of NO here, too", y.start(0, 1), BAD);
    }
}
