/** Promises 12 to 16, 47 and term 6: belts, sensors, parts that are gripped and dropped. */
public final class BeltsTest {
    public static void main(String[] args) {
        goesOn();
        quarters();
        sensors();
        grips();
        nearest();
        drops();
        order();
        heldBody();
        Due.end();
    }

    private static void waysAre(String what, RobotCellHouse x, int... ways) {
        for (int p = 0; p < ways.length; p++) Due.is(what + ": way of part " + p, x.about(p, 3), ways[p]);
    }

    private static void goesOn() {
        RobotCellHouse x = new RobotCellHouse();
        x.belt(0, 0, 0, 100, 0);
        x.drive(0, 30);
        x.part(0, 0, 5);
        x.part(0, 50, 10);
        x.part(0, 50, 1);
        x.part(0, 60, 0);
        x.open();
        waysAre("at first", x, 0, 50, 50, 60);
        x.run(1);
        // 3 goes to 90, 1 not beyond 80, 2 behind 1 not beyond 80 - 11, 0 to 30.
        waysAre("behind a tick", x, 30, 80, 69, 90);
        x.run(1);
        waysAre("behind two", x, 60, 90, 79, 100);
        x.run(1);
        waysAre("behind three", x, 73, 90, 79, 100);
        x.run(9);
        waysAre("at its end", x, 73, 90, 79, 100);
        // Parts that are nearer than their radii do not go back.
        RobotCellHouse y = new RobotCellHouse();
        y.belt(0, 0, 0, 100, 0);
        y.drive(0, 4);
        y.part(0, 90, 20);
        y.part(0, 85, 20);
        y.open();
        y.run(1);
        waysAre("too near", y, 94, 85);
        y.run(3);
        waysAre("too near at the end", y, 100, 85);
    }

    private static void quarters() {
        int[][] due = {{107, 50}, {100, 57}, {93, 50}, {100, 43}};
        for (int q = 0; q < 4; q++) {
            RobotCellHouse x = new RobotCellHouse();
            x.belt(100, 50, q, 500, 0);
            x.drive(0, 7);
            x.part(0, 0, 0);
            x.open();
            x.run(1);
            Due.is("x in quarter " + q, x.about(0, 1), due[q][0]);
            Due.is("y in quarter " + q, x.about(0, 2), due[q][1]);
        }
    }

    private static void sensors() {
        RobotCellHouse x = new RobotCellHouse();
        x.belt(0, 0, 0, 1000, 0);
        x.drive(0, 10);
        x.part(0, 0, 0);
        x.sensor(0, 1, 0, 1000);
        x.sensor(0, 5, 20, 30);
        x.belt(0, 0, 1, 1000, 0);
        x.sensor(1, 6, 0, 1000);
        x.open();
        x.set(5, 1);
        int[] due = {0, 1, 1, 0};
        for (int d : due) {
            x.run(1);
            Due.is("the sensor's point", x.signal(5, 1), d);
        }
        Due.is("its rises", x.signal(5, 2), 2);
        Due.is("the sensor that it had", x.signal(1, 1), 0);
        Due.is("a belt without parts", x.signal(6, 1), 0);
        RobotCellHouse y = new RobotCellHouse();
        y.belt(0, 0, 0, 1000, 0);
        y.part(0, 0, 0);
        y.open();
        y.set(0, 5);
        y.run(1);
        Due.is("a belt without a sensor", y.signal(0, 1), 5);
    }

    private static RobotCellHouse cell(int reach, String text) {
        RobotCellHouse x = new RobotCellHouse();
        x.arm(0, 0, 0, reach);
        x.joint(0, 0, -1024, 1024, 100);
        x.pace(0, 0, 2000, 2000);
        x.person(0, true);
        int routines = Due.program(x, 0, text);
        if (routines < 0) Due.is("program of " + text, routines, 0);
        return x;
    }

    private static void grips() {
        RobotCellHouse x = cell(5, "to r: grip; note holding; try: grip; catch: note error; end move 1024; drop; "
                + "note holding; try: drop; catch: note error; end end");
        x.lay(103, 4, 3);
        x.open();
        x.reset(0);
        x.start(0, 0);
        x.run(1);
        Due.is("held by arm 0", x.about(0, 0), 4);
        Due.is("state(0, 2)", x.state(0, 2), 0);
        Due.is("its middle is the last point, x", x.about(0, 1), 0);
        Due.is("its middle is the last point, y", x.about(0, 2), 100);
        x.run(2);
        Due.is("it lies where it was dropped", x.about(0, 0), 8);
        Due.is("its x", x.about(0, 1), 0);
        Due.is("its y", x.about(0, 2), 100);
        Due.is("its s", x.about(0, 3), 0);
        Due.is("the hand is empty", x.state(0, 2), -1);
        Due.eventsAre("grips", x, "0:3(0,0) 1:6(0,0) 1:1(0,1) 1:1(0,7) 2:8(0,2) 3:7(0,0) 3:1(0,0) 3:1(0,7) 3:4(0,0)");
        RobotCellHouse up = cell(5, "to r: grip; end");
        up.lay(3, 104, 3);
        up.open();
        up.hand(0, 0, 1024);
        up.start(0, 0);
        up.run(1);
        Due.is("above its base", up.state(0, 2), 0);
        RobotCellHouse y = cell(4, "to r: grip; end");
        y.lay(103, 4, 3);
        y.open();
        y.start(0, 0);
        y.run(1);
        Due.is("one eighth beyond its reach", y.task(0, 2), 7);
        Due.is("never(3)", y.never(3), 0);
    }

    private static void nearest() {
        RobotCellHouse x = cell(50, "to r: grip; end");
        x.lay(120, 0, 0);
        x.belt(90, -10, 1, 100, 0);
        x.part(0, 10, 0);
        x.lay(110, 0, 0);
        x.lay(100, 10, 0);
        x.open();
        x.start(0, 0);
        x.run(1);
        Due.is("of equal ones the least", x.state(0, 2), 1);
        Due.is("it has left its belt", x.about(1, 0), 4);
        Due.is("an arm without power grips, too", x.safety(0), 0);
    }

    private static void dropped(String what, int x, int y, int quarter, int length, int width, int dueBelt, int dueWay) {
        RobotCellHouse house = cell(0, "to r: grip; drop; end");
        house.lay(100, 0, 0);
        house.belt(x, y, quarter, length, width);
        house.belt(-5000, 0, 0, 1, 0);
        house.open();
        house.start(0, 0);
        house.run(1);
        Due.is(what + ": where", house.about(0, 0), dueBelt);
        Due.is(what + ": way", house.about(0, 3), dueWay);
        Due.is(what + ": x", house.about(0, 1), dueBelt == 8 ? 100 : quarter == 0 ? x + dueWay : quarter == 2 ? x - dueWay : x);
    }

    private static void drops() {
        dropped("along x", 40, 7, 0, 60, 7, 0, 60);
        dropped("along x, too short", 40, 7, 0, 59, 7, 8, 0);
        dropped("along x, too narrow", 40, 7, 0, 60, 6, 8, 0);
        dropped("along x, at its beginning", 100, -9, 0, 60, 9, 0, 0);
        dropped("along x, ahead of it", 101, 0, 0, 60, 9, 8, 0);
        dropped("along y", 95, -30, 1, 30, 5, 0, 30);
        dropped("along y, too narrow", 95, -30, 1, 30, 4, 8, 0);
        dropped("against x", 130, 0, 2, 40, 0, 0, 30);
        dropped("against y", 100, 12, 3, 40, 0, 0, 12);
        RobotCellHouse x = cell(0, "to r: grip; drop; end");
        x.lay(100, 0, 0);
        x.belt(0, 50, 0, 500, 49);
        x.belt(0, 50, 0, 500, 50);
        x.belt(0, 0, 0, 500, 0);
        x.open();
        x.start(0, 0);
        x.run(1);
        Due.is("the first belt that it fits", x.about(0, 0), 1);
    }

    /** One that comes is behind all that are as far on: the others hold it back. */
    private static void order() {
        RobotCellHouse x = cell(9, "to r: grip; drop; end");
        x.lay(101, 0, 7);
        x.belt(0, 0, 0, 1000, 0);
        x.drive(0, 10);
        x.part(0, 100, 3);
        x.part(0, 99, 2);
        x.open();
        x.start(0, 0);
        // Part 1 is at the arm's last point: it is gripped, and dropped to its old place in the order.
        x.run(1);
        Due.is("the nearest was on the belt", x.event(0, 3), 1);
        waysAre("an order as before", x, 0, 110, 105);
        RobotCellHouse y = cell(9, "to r: grip; drop; end");
        y.lay(100, 0, 7);
        y.belt(0, 0, 0, 1000, 0);
        y.drive(0, 10);
        y.part(0, 100, 3);
        y.part(0, 99, 2);
        y.open();
        y.start(0, 0);
        y.run(1);
        Due.is("the one that lay", y.event(0, 3), 0);
        waysAre("between two", y, 100, 110, 99);
        y.run(1);
        waysAre("between two, later", y, 110, 120, 101);
        Due.is("never(3)", y.never(3), 0);
        // The one in the middle is taken away: those behind it come nearer, in their order.
        RobotCellHouse z = cell(1, "to r: grip; end");
        z.belt(100, -200, 1, 260, 0);
        z.part(0, 190, 10);
        z.part(0, 220, 10);
        z.part(0, 200, 5);
        z.part(0, 180, 5);
        z.drive(0, 50);
        z.open();
        z.start(0, 0);
        z.run(1);
        Due.is("the middle one", z.state(0, 2), 2);
        waysAre("without it", z, 240, 260, 0, 225);
        z.build();
        z.belt(0, 0, 0, 100, 0);
        z.drive(0, 1);
        z.part(0, 10, 0);
        z.open();
        z.run(1);
        waysAre("a new belt", z, 11);
    }

    private static void heldBody() {
        RobotCellHouse x = cell(50, "to r: grip; end");
        x.lay(100, 0, 30);
        x.ball(100, 50, 0);
        x.open();
        Due.is("without a part", x.touches(0, 49), 0);
        x.start(0, 0);
        x.run(1);
        Due.is("the part's radius counts", x.touches(0, 20), 1);
        Due.is("not more", x.touches(0, 19), 0);
        RobotCellHouse y = cell(50, "to r: grip; end");
        y.lay(100, 0, 30);
        y.ball(100, 50, 0);
        y.spare(0, 1, 0);
        y.open();
        y.start(0, 0);
        y.run(1);
        Due.is("a held part that is spared", y.touches(0, 20), 0);
        RobotCellHouse z = new RobotCellHouse();
        z.arm(10, 10, 0, 50);
        z.lay(10, 10, 5);
        z.ball(10, 20, 0);
        Due.program(z, 0, "to r: grip; end");
        z.open();
        z.start(0, 0);
        z.run(1);
        Due.is("an arm without joints holds it at its base", z.about(0, 1), 10);
        Due.is("its only body is the part", z.touches(0, 5), 1);
        Due.is("not nearer", z.touches(0, 4), 0);
    }
}
