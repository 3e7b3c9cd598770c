/** Terms 3, 6, 7, 8 and promises 26 to 33, 45 to 50: points, belts, inputs, zones and ticks at their limits. */
public final class EdgesOfCellTest {
    private static final int BAD = RobotCellHouse.BAD, NO = RobotCellHouse.NO, FULL = RobotCellHouse.FULL;
    private static final int MIN = Integer.MIN_VALUE, MAX = Integer.MAX_VALUE;

    public static void main(String[] args) {
        oldNumbers();
        greatestNumbers();
        whatARiseIs();
        risesByWires();
        risesBySensors();
        forcedAheadOfWired();
        rings();
        wiresDownwards();
        frontOfBelts();
        noBelt();
        thirtyTwoOnABelt();
        sensorEdges();
        sensorsOfOnePoint();
        droppedAmongEqual();
        heldByEachArm();
        grippedFromABelt();
        differs();
        thousandDiffers();
        whichChannel();
        wellOrNot();
        zoneEdges();
        zonesByMost();
        leastZone();
        eightZones();
        zoneBehindTouch();
        firstTickOfZone();
        touchesBehindBack();
        tripOfArms();
        noTripWithoutPower();
        causeOfTheLatest();
        lastTick();
        keptEvents();
        handEdges();
        Due.end();
    }

    private static void oldNumbers() {
        RobotCellHouse x = new RobotCellHouse();
        x.open();
        x.set(7, -1);
        Due.is("an old number that is BAD", x.set(7, -2), BAD);
        Due.is("an old number that is NO", x.set(7, -3), NO);
        Due.is("an old number that is FULL", x.set(7, 9), FULL);
        Due.is("it was carried out", x.signal(7, 1), 9);
        Due.is("each has a row", x.count(6), 4);
    }

    private static void greatestNumbers() {
        RobotCellHouse x = new RobotCellHouse();
        x.wire(0, 1, true);
        x.wire(0, 2, false);
        x.open();
        x.set(0, MIN);
        Due.is("the least number", x.signal(2, 0), MIN);
        Due.is("turned", x.signal(1, 0), 0);
        Due.is("what it was", x.set(0, MAX), MIN);
        Due.is("the greatest number", x.signal(2, 0), MAX);
        Due.is("no rise between them", x.signal(2, 2), 1);
        x.force(2, MIN, true);
        Due.is("forced to the least", x.signal(2, 0), MIN);
    }

    /** From 0 to another one: not from another to another, not to 0, not under a force. */
    private static void whatARiseIs() {
        RobotCellHouse x = new RobotCellHouse();
        x.open();
        int[][] due = {{0, 0}, {5, 1}, {6, 1}, {0, 1}, {0, 1}, {-1, 2}, {1, 2}, {0, 2}, {MIN, 3}};
        for (int[] d : due) {
            x.set(0, d[0]);
            Due.is("rises behind " + d[0], x.signal(0, 2), d[1]);
        }
        x.force(0, 0, true);
        x.set(0, 0);
        x.set(0, 4);
        Due.is("an own number under a force", x.signal(0, 2), 3);
        x.force(0, 0, false);
        Due.is("when the force ends", x.signal(0, 2), 4);
        x.force(0, 8, true);
        Due.is("a force from one to another", x.signal(0, 2), 4);
        x.force(0, 0, true);
        x.force(0, 8, true);
        Due.is("a force from 0 on", x.signal(0, 2), 5);
        Due.is("of another point", x.signal(1, 2), 0);
    }

    private static void risesByWires() {
        RobotCellHouse x = new RobotCellHouse();
        x.wire(0, 1, true);
        x.wire(1, 2, true);
        x.wire(2, 3, false);
        Due.is("no rise by wire()", x.signal(1, 2), 0);
        Due.is("its value", x.signal(1, 0), 1);
        x.open();
        Due.is("no rise by open()", x.signal(1, 2), 0);
        x.set(0, 1);
        x.set(0, 0);
        x.set(0, 7);
        x.set(0, 8);
        int[] due = {2, 1, 2, 2};
        for (int p = 0; p < 4; p++) Due.is("rises of point " + p, x.signal(p, 2), due[p]);
        x.set(3, 5);
        Due.is("the own number of a wired one", x.signal(3, 2), 2);
        x.force(1, 1, true);
        x.force(1, 0, true);
        Due.is("by a force ahead of it", x.signal(3, 2), 3);
        x.back(0);
        for (int p = 0; p < 4; p++) Due.is("no rises of point " + p, x.signal(p, 2), 0);
    }

    private static void risesBySensors() {
        RobotCellHouse x = new RobotCellHouse();
        x.belt(0, 0, 0, 1000, 0);
        x.drive(0, 10);
        x.sensor(0, 0, 20, 29);
        x.part(0, 0, 0);
        x.part(0, 970, 0);
        x.wire(0, 1, false);
        x.open();
        x.run(1);
        Due.is("no rise", x.signal(1, 2), 0);
        x.run(1);
        Due.is("a rise", x.signal(1, 2), 1);
        x.run(1);
        Due.is("gone on", x.signal(1, 0), 0);
        Due.is("no more rises", x.signal(1, 2), 1);
        // The sensor sets an own number: that of a wired or a forced point is not its value.
        RobotCellHouse y = new RobotCellHouse();
        y.belt(0, 0, 0, 1000, 0);
        y.belt(0, 0, 0, 1000, 0);
        y.part(0, 5, 0);
        y.part(1, 5, 0);
        y.sensor(0, 1, 0, 9);
        y.sensor(1, 2, 0, 9);
        y.wire(0, 1, false);
        y.open();
        y.force(2, 0, true);
        y.run(1);
        Due.is("own number of a wired one", y.signal(1, 1), 1);
        Due.is("its value", y.signal(1, 0), 0);
        Due.is("own number of a forced one", y.signal(2, 1), 1);
        Due.is("its value, too", y.signal(2, 0), 0);
        y.force(2, 0, false);
        Due.is("a rise when it is forced no more", y.signal(2, 2), 1);
    }

    private static void forcedAheadOfWired() {
        RobotCellHouse x = new RobotCellHouse();
        x.wire(0, 1, false);
        x.open();
        x.set(1, 3);
        Due.is("a wired one has not its own number", x.signal(1, 0), 0);
        Due.is("force", x.force(1, 4, true), 0);
        x.set(0, 6);
        Due.is("what it is forced to", x.signal(1, 0), 4);
        Due.is("force again", x.force(1, 5, true), 1);
        Due.is("forced anew", x.signal(1, 0), 5);
        Due.is("no more", x.force(1, 9, false), 1);
        Due.is("its wire", x.signal(1, 0), 6);
        Due.is("not forced", x.force(1, 9, false), 0);
        Due.is("its wire still", x.signal(1, 0), 6);
        Due.is("its own number", x.signal(1, 1), 3);
    }

    private static void rings() {
        RobotCellHouse x = new RobotCellHouse();
        Due.is("to itself", x.wire(9, 9, true), NO);
        Due.is("wire", x.wire(1, 2, false), 0);
        Due.is("back again", x.wire(2, 1, true), NO);
        Due.is("wire on", x.wire(2, 3, false), 0);
        Due.is("a ring of three", x.wire(3, 1, true), NO);
        Due.is("a second one to it", x.wire(0, 2, false), NO);
        Due.is("the same again", x.wire(1, 2, false), NO);
        Due.is("wire from 0", x.wire(0, 7, false), 0);
        Due.is("a second one to that", x.wire(8, 7, false), NO);
        Due.is("two from one", x.wire(1, 4, true), 0);
        Due.is("to the beginning of the row", x.wire(0, 1, false), 0);
        Due.is("a ring of four", x.wire(3, 0, false), NO);
        x.build();
        Due.is("no wires behind build()", x.wire(2, 1, false), 0);
    }

    /** From greater numbers to lesser ones, down to 0, told in any order. */
    private static void wiresDownwards() {
        RobotCellHouse x = new RobotCellHouse();
        x.wire(20, 10, false);
        x.wire(63, 30, true);
        x.wire(10, 0, true);
        x.wire(30, 20, false);
        int[] points = {30, 20, 10};
        for (int p : points) Due.is("point " + p, x.signal(p, 0), 1);
        Due.is("point 0", x.signal(0, 0), 0);
        x.open();
        x.set(63, 7);
        for (int p : points) Due.is("point " + p + " then", x.signal(p, 0), 0);
        Due.is("point 0 then", x.signal(0, 0), 1);
        Due.is("rises of 0", x.signal(0, 2), 1);
        x.force(20, 5, true);
        Due.is("point 0 by a force", x.signal(0, 0), 0);
        Due.is("point 10 by a force", x.signal(10, 0), 5);
    }

    private static void wayIs(RobotCellHouse x, int part, int due) {
        Due.is("way of part " + part + " in tick " + x.time(), x.about(part, 3), due);
    }

    private static void frontOfBelts() {
        RobotCellHouse x = new RobotCellHouse();
        x.belt(0, 0, 0, 100, 0);
        x.drive(0, 100);
        x.part(0, 0, 10);
        x.part(0, 100, 20);
        x.part(0, 71, 0);
        x.part(0, 70, 0);
        x.open();
        x.run(1);
        wayIs(x, 1, 100);
        // One that is 29 behind a part of radius 20 goes on by 9, not by more.
        wayIs(x, 2, 80);
        wayIs(x, 3, 80);
        wayIs(x, 0, 70);
        x.run(1);
        wayIs(x, 0, 70);
        RobotCellHouse y = new RobotCellHouse();
        y.belt(0, 0, 0, 0, 0);
        y.drive(0, 100);
        y.part(0, 0, 800);
        y.part(0, 0, 800);
        y.open();
        y.run(2);
        wayIs(y, 0, 0);
        wayIs(y, 1, 0);
        RobotCellHouse z = new RobotCellHouse();
        z.belt(0, 0, 0, 16000, 0);
        z.part(0, 0, 0);
        z.open();
        z.run(3);
        wayIs(z, 0, 0);
    }

    private static void noBelt() {
        RobotCellHouse x = new RobotCellHouse();
        x.lay(5, 5, 0);
        x.open();
        x.run(1);
        Due.is("it lies", x.about(0, 0), 8);
        Due.is("its s", x.about(0, 3), 0);
    }

    private static void thirtyTwoOnABelt() {
        RobotCellHouse x = new RobotCellHouse();
        x.belt(0, 0, 0, 16000, 0);
        x.drive(0, 100);
        for (int p = 0; p < 32; p++) Due.is("part " + p, x.part(0, 5, 1), p);
        x.open();
        x.run(1);
        wayIs(x, 0, 105);
        wayIs(x, 1, 103);
        wayIs(x, 31, 43);
        x.run(1);
        wayIs(x, 31, 143);
        Due.is("never(3)", x.never(3), 0);
    }

    private static int sensed(int from, int to) {
        RobotCellHouse x = new RobotCellHouse();
        x.belt(0, 0, 0, 1000, 0);
        x.part(0, 500, 90);
        x.sensor(0, 3, from, to);
        x.open();
        Due.is("not ahead of a tick", x.signal(3, 1), 0);
        x.run(1);
        return x.signal(3, 1);
    }

    private static void sensorEdges() {
        Due.is("from there on", sensed(500, 600), 1);
        Due.is("up to there", sensed(400, 500), 1);
        Due.is("there alone", sensed(500, 500), 1);
        Due.is("behind it", sensed(501, MAX), 0);
        Due.is("ahead of it", sensed(0, 499), 0);
        Due.is("everywhere", sensed(0, MAX), 1);
    }

    /** Each belt has its sensor behind it: the later one's number stays, and the first one's is a rise. */
    private static void sensorsOfOnePoint() {
        RobotCellHouse x = new RobotCellHouse();
        for (int b = 0; b < 2; b++) {
            x.belt(0, 0, 0, 1000, 0);
            x.sensor(b, 0, 0, 1000);
        }
        x.part(0, 0, 0);
        x.open();
        x.run(3);
        Due.is("the later one's", x.signal(0, 0), 0);
        Due.is("a rise in each tick", x.signal(0, 2), 3);
    }

    /** One that comes is behind all that are as far on: it is held back by them. */
    private static void droppedAmongEqual() {
        RobotCellHouse x = new RobotCellHouse();
        x.arm(100, 0, 0, 0);
        x.lay(100, 0, 4);
        x.belt(0, 0, 0, 1000, 0);
        x.part(0, 99, 3);
        x.part(0, 100, 5);
        x.part(0, 101, 7);
        x.drive(0, 20);
        Due.program(x, 0, "to r: grip; drop; end");
        x.open();
        x.start(0, 0);
        x.run(1);
        Due.is("the least of equal ones", x.event(0, 3), 0);
        Due.is("it is on the belt", x.about(0, 0), 0);
        wayIs(x, 3, 121);
        wayIs(x, 2, 109);
        wayIs(x, 0, 100);
        wayIs(x, 1, 99);
        x.run(1);
        wayIs(x, 3, 141);
        wayIs(x, 2, 129);
        wayIs(x, 0, 120);
        wayIs(x, 1, 113);
    }

    private static void heldByEachArm() {
        RobotCellHouse x = new RobotCellHouse();
        for (int b = 0; b < 4; b++) x.belt(9000, 9000, 3, 10, 0);
        for (int a = 0; a < 4; a++) {
            x.arm(2000 * a, 100 * a, 0, 5);
            x.joint(a, 0, 0, 0, 50);
            x.lay(2000 * a + 53, 100 * a - 4, 1);
            Due.program(x, a, "to r: grip; end to d: drop; end");
        }
        x.open();
        for (int a = 0; a < 4; a++) x.start(a, 0);
        x.run(1);
        for (int a = 0; a < 4; a++) {
            Due.is("held by arm " + a, x.about(a, 0), 4 + a);
            Due.is("its x", x.about(a, 1), 2000 * a + 50);
            Due.is("its y", x.about(a, 2), 100 * a);
            Due.is("its s", x.about(a, 3), 0);
            Due.is("the part of arm " + a, x.state(a, 2), a);
            x.start(a, 1);
        }
        x.run(1);
        for (int a = 0; a < 4; a++) {
            Due.is("part " + a + " lies", x.about(a, 0), 8);
            Due.is("where it was dropped, x", x.about(a, 1), 2000 * a + 50);
            Due.is("where it was dropped, y", x.about(a, 2), 100 * a);
        }
        Due.is("never(3)", x.never(3), 0);
    }

    /** What is gripped is on its belt no more: the sensor and the others do not see it. */
    private static void grippedFromABelt() {
        for (int parts = 1; parts <= 32; parts += 31) {
            RobotCellHouse x = new RobotCellHouse();
            x.arm(100, 0, 0, 0);
            x.belt(0, 0, 0, 1000, 0);
            x.sensor(0, 5, 100, 1000);
            for (int p = 0; p < parts; p++) x.part(0, 100 - p, 1);
            Due.program(x, 0, "to r: grip; wait 1; drop; end");
            x.open();
            x.run(1);
            Due.is("the sensor sees it", x.signal(5, 0), 1);
            x.start(0, 0);
            x.run(1);
            Due.is("it is held", x.about(0, 0), 4);
            Due.is("the sensor sees none", x.signal(5, 0), 0);
            x.run(1);
            Due.is("it is on the belt again", x.about(0, 0), 0);
            Due.is("the sensor sees it again", x.signal(5, 0), 1);
            Due.is("never(3)", x.never(3), 0);
        }
    }

    private static void differs() {
        RobotCellHouse x = new RobotCellHouse();
        x.input(0);
        x.input(1);
        x.open();
        x.channel(0, true, false);
        x.channel(1, true, false);
        Due.is("no tick has looked", x.safety(4), 0);
        x.run(1);
        Due.is("DIFFER 0, one tick", x.safety(4), 2);
        Due.is("DIFFER 1, one tick", x.safety(5), 0);
        x.channel(1, false, false);
        x.run(1);
        x.channel(1, false, true);
        x.run(1);
        Due.is("not one behind the other", x.safety(5), 0);
        x.run(1);
        Due.is("two ticks", x.safety(5), 2);
    }

    private static void thousandDiffers() {
        RobotCellHouse x = new RobotCellHouse();
        x.input(1000);
        x.open();
        x.channel(0, false, true);
        x.run(1000);
        Due.is("a thousand ticks", x.safety(4), 0);
        x.run(1);
        Due.is("one more", x.safety(4), 2);
    }

    /** Which of the two is 0 may change: they differ all the same. */
    private static void whichChannel() {
        RobotCellHouse x = new RobotCellHouse();
        x.input(3);
        x.open();
        for (int i = 0; i < 4; i++) {
            Due.is("not faulty yet", x.safety(4), i == 0 ? 1 : 0);
            x.channel(0, i % 2 == 0, i % 2 != 0);
            x.run(1);
        }
        Due.is("four ticks", x.safety(4), 2);
    }

    private static void wellOrNot() {
        RobotCellHouse x = new RobotCellHouse();
        x.input(5);
        x.person(0, true);
        x.open();
        boolean[][] channels = {{true, false}, {false, true}, {false, false}, {true, true}};
        for (boolean[] c : channels) {
            x.channel(0, c[0], c[1]);
            boolean well = c[0] && c[1];
            Due.is("well", x.safety(4), well ? 1 : 0);
            Due.is("reset", x.reset(0), well ? 1 : NO);
        }
        Due.is("power", x.safety(0), 1);
        x.channel(0, false, false);
        Due.is("no tick has looked", x.safety(0), 1);
        x.run(1);
        Due.is("a trip", x.safety(1), 1);
    }

    private static int zoneTrips(int x, int y, int w, int h, int most) {
        RobotCellHouse house = new RobotCellHouse();
        house.person(0, true);
        house.arm(0, 0, 0, 0);
        house.joint(0, 0, 0, 0, 100);
        house.zone(0, x, y, w, h);
        house.most(0, most);
        house.open();
        house.reset(0);
        house.run(1);
        return house.safety(1);
    }

    private static void zoneEdges() {
        Due.is("its left edge", zoneTrips(100, -5, 9, 10, -1), 3);
        Due.is("its right edge", zoneTrips(90, -5, 10, 10, -1), 3);
        Due.is("its lower edge", zoneTrips(90, 0, 20, 10, -1), 3);
        Due.is("its upper edge", zoneTrips(90, -10, 20, 10, -1), 3);
        Due.is("a place", zoneTrips(100, 0, 0, 0, -1), 3);
        Due.is("beyond its left edge", zoneTrips(101, -5, 9, 10, -1), 0);
        Due.is("beyond its right edge", zoneTrips(89, -5, 10, 10, -1), 0);
        Due.is("beyond its lower edge", zoneTrips(90, 1, 20, 10, -1), 0);
        Due.is("beyond its upper edge", zoneTrips(90, -11, 20, 10, -1), 0);
        Due.is("point 0 and the line between", zoneTrips(-5, -5, 100, 10, -1), 0);
        Due.is("MOST 0 for a point that stands", zoneTrips(100, 0, 0, 0, 0), 0);
    }

    /** By 3 along x and by 4 along y the last point is 5 from where it was. */
    private static void zonesByMost() {
        for (int most = 4; most <= 5; most++) {
            RobotCellHouse x = new RobotCellHouse();
            x.person(0, true);
            x.arm(0, 0, 0, 0);
            x.joint(0, 1, 0, 100, 100);
            x.joint(0, 0, -1024, 1024, 50);
            x.joint(0, 1, 0, 100, 0);
            x.zone(0, -900, -900, 1800, 1800);
            x.most(0, most);
            x.open();
            x.hand(0, 1, 1024);
            x.run(1);
            x.hand(0, 0, 3);
            x.hand(0, 2, 4);
            x.reset(0);
            x.run(1);
            Due.is("from (100, 50) to (103, 54), MOST " + most, x.safety(1), most == 4 ? 3 : 0);
        }
        RobotCellHouse z = new RobotCellHouse();
        z.person(0, true);
        z.arm(0, 0, 0, 0);
        z.joint(0, 1, 0, 100, 100);
        z.pace(0, 0, 1, 1);
        z.zone(0, 0, 0, 200, 0);
        z.most(0, 0);
        Due.program(z, 0, "to r: wait 2; move 1; end");
        z.open();
        z.reset(0);
        z.start(0, 0);
        z.run(2);
        Due.is("MOST 0 as long as it stands", z.safety(0), 1);
        z.run(1);
        Due.is("MOST 0 when it moves", z.safety(1), 3);
        Due.is("in that tick", z.safety(3), 3);
    }

    private static void leastZone() {
        RobotCellHouse x = new RobotCellHouse();
        x.person(0, true);
        x.arm(0, 0, 0, 0);
        x.joint(0, 0, 0, 0, 100);
        x.zone(0, 900, 900, 1, 1);
        for (int z = 1; z < 8; z++) x.zone(0, 100, 0, 0, 0);
        x.open();
        x.reset(0);
        x.run(1);
        Due.is("kind", x.safety(1), 3);
        Due.is("the least that is broken", x.safety(2), 1);
    }

    private static void eightZones() {
        RobotCellHouse x = new RobotCellHouse();
        x.person(0, true);
        x.arm(0, 0, 0, 0);
        x.joint(0, 1, 0, 50, 100);
        for (int z = 0; z < 8; z++) x.zone(0, 110 + z, -5, 100, 10);
        for (int z = 0; z < 7; z++) x.most(z, 1000);
        x.pace(0, 0, 1, 1);
        Due.program(x, 0, "to r: move 50; end");
        x.open();
        x.reset(0);
        x.start(0, 0);
        x.run(16);
        Due.is("none of eight", x.safety(1), 0);
        x.run(1);
        Due.is("the last of eight", x.safety(1) * 10 + x.safety(2), 37);
    }

    private static void zoneBehindTouch() {
        RobotCellHouse x = new RobotCellHouse();
        x.person(0, true);
        x.arm(0, 0, 0, 0);
        x.joint(0, 0, 0, 0, 100);
        x.zone(0, 100, 0, 0, 0);
        x.ball(50, 5, 5);
        x.open();
        x.reset(0);
        x.run(1);
        Due.eventsAre("a touch and a zone", x, "0:3(0,0) 1:2(2,0)");
    }

    /** Where it was behind the tick before; for the first tick, at open(); again behind back(). */
    private static void firstTickOfZone() {
        RobotCellHouse x = new RobotCellHouse();
        x.person(0, true);
        x.arm(0, 0, 0, 0);
        x.joint(0, 1, 0, 100, 100);
        x.zone(0, 0, 0, 200, 0);
        x.most(0, 10);
        x.open();
        x.hand(0, 0, 50);
        x.hand(0, 0, 10);
        x.reset(0);
        x.run(1);
        Due.is("10 from open()", x.safety(1), 0);
        x.stop(-1);
        x.hand(0, 0, 21);
        x.reset(0);
        x.run(1);
        Due.is("11 from the tick before", x.safety(1), 3);
        x.back(0);
        x.hand(0, 0, 11);
        x.reset(0);
        x.run(1);
        Due.is("11 from open(), behind back()", x.safety(1), 3);
    }

    /** It touches at open(); that it did not touch elsewhere says nothing of that. */
    private static void touchesBehindBack() {
        RobotCellHouse x = new RobotCellHouse();
        x.person(0, true);
        x.arm(0, 0, 0, 0);
        x.joint(0, 0, 0, 1024, 100);
        x.ball(100, 0, 5);
        x.open();
        x.hand(0, 0, 500);
        x.reset(0);
        x.run(2);
        Due.is("it does not touch", x.safety(0), 1);
        x.back(0);
        x.reset(0);
        x.run(1);
        Due.is("as at open() it does", x.safety(1), 2);
    }

    /** Power, then the cause, then each arm that goes by its number; one that brakes stands without an event. */
    private static void tripOfArms() {
        RobotCellHouse x = new RobotCellHouse();
        x.person(0, true);
        for (int a = 0; a < 4; a++) {
            x.arm(0, 3000 * a - 6000, 0, 0);
            x.joint(a, 0, 0, 1000, 100);
            Due.program(x, a, "to r: move 1000; end");
        }
        x.open();
        x.reset(0);
        for (int a = 3; a >= 1; a--) x.start(a, 0);
        x.run(5);
        x.stop(2);
        x.stop(-1);
        for (int a = 0; a < 4; a++) Due.is("arm " + a + " stands", x.state(a, 0), 0);
        Due.eventsAre("a trip", x, "0:3(0,0) 5:9(2,0) 5:2(4,0) 5:9(1,0) 5:9(3,0)");
        int[] values = {0, 150, 150, 150};
        x.run(1);
        for (int a = 0; a < 4; a++) Due.is("value of arm " + a, x.value(a, 0), values[a]);
    }

    private static void noTripWithoutPower() {
        RobotCellHouse x = new RobotCellHouse();
        x.person(0, true);
        x.input(0);
        x.arm(0, 0, 0, 0);
        x.joint(0, 0, 0, 0, 100);
        x.zone(0, 100, 0, 0, 0);
        x.ball(50, 0, 5);
        x.open();
        x.channel(0, false, false);
        x.run(3);
        Due.is("no event", x.events(), 0);
        Due.is("no cause", x.safety(1) + x.safety(2) + x.safety(3), 0);
        Due.is("stop(-1)", x.stop(-1), NO);
    }

    private static void causeOfTheLatest() {
        RobotCellHouse x = new RobotCellHouse();
        x.person(0, true);
        x.input(0);
        x.input(0);
        x.open();
        x.reset(0);
        x.stop(-1);
        Due.is("kind 4", x.safety(1), 4);
        Due.is("number 0", x.safety(2), 0);
        Due.is("tick 0", x.safety(3), 0);
        x.reset(0);
        x.run(2);
        x.channel(1, false, false);
        x.run(1);
        Due.is("kind 1", x.safety(1), 1);
        Due.is("number 1", x.safety(2), 1);
        Due.is("tick 3", x.safety(3), 3);
        x.channel(1, true, true);
        x.reset(0);
        Due.is("the cause stays", x.safety(1) * 100 + x.safety(2) * 10 + x.safety(3), 113);
    }

    private static void lastTick() {
        RobotCellHouse x = new RobotCellHouse();
        x.arm(0, 0, 0, 0);
        Due.program(x, 0, "to r: until time = 6000; note time; end");
        x.open();
        x.start(0, 0);
        for (int i = 0; i < 5; i++) x.run(1000);
        Due.is("up to 5999", x.run(999), 999);
        Due.is("one is left", x.run(1000), 1);
        Due.is("the last one was whole", x.event(0, 3), 6000);
        Due.is("none is left", x.run(1), FULL);
        Due.is("none of 1000 is left", x.run(1000), FULL);
        Due.is("a wrong number", x.run(1001), BAD);
        Due.is("other calls are carried out", x.set(0, 1), 0);
        Due.is("their rows", x.count(6), 9);
        Due.is("a row of one tick", x.back(8), 6000);
        Due.is("build", x.build(), 6000);
    }

    private static void keptEvents() {
        RobotCellHouse x = new RobotCellHouse();
        x.person(0, true);
        x.arm(0, 0, 0, 0);
        Due.program(x, 0, "to r: while 1: note time; end end to s: wait 200; raise 9; end");
        x.open();
        x.reset(0);
        x.start(0, 0);
        x.start(0, 1);
        x.run(199);
        Due.is("1991 events", x.events(), 1991);
        x.run(1);
        Due.is("2001 events", x.events(), 2001);
        Due.is("the last one that is kept", x.event(1999, 3), 200);
        Due.is("its kind", x.event(1999, 1), 1);
        Due.is("one that is not kept", x.event(2000, 3), BAD);
        x.run(2);
        Due.is("they count on, the fault too", x.events(), 2012);
        Due.is("the first one stays", x.event(0, 1), 3);
        x.back(3);
        Due.is("events of the first rows", x.events(), 1);
        Due.is("those behind are gone", x.event(1, 0), BAD);
    }

    private static void handEdges() {
        RobotCellHouse x = new RobotCellHouse();
        x.person(0, true);
        x.arm(0, 0, 0, 0);
        x.joint(0, 0, -3, 0, 100);
        x.joint(0, 1, 0, 4, 0);
        x.open();
        Due.is("LOW", x.hand(0, 0, -1), 0);
        Due.is("an old value that is BAD", x.hand(0, 0, -2), BAD);
        Due.is("an old value that is NO", x.hand(0, 0, -3), NO);
        Due.is("an old value that is FULL", x.hand(0, 0, 0), FULL);
        Due.is("each has a row", x.count(6), 4);
        Due.is("below LOW", x.hand(0, 0, -4), BAD);
        Due.is("above HIGH", x.hand(0, 0, 1), BAD);
        Due.is("HIGH of a slide", x.hand(0, 1, 4), 0);
        Due.is("below LOW of a slide", x.hand(0, 1, -1), BAD);
        x.reset(0);
        Due.is("with power", x.hand(0, 0, -1), NO);
        Due.is("BAD is named ahead of that", x.hand(0, 0, 1), BAD);
        Due.is("a value that is BAD", x.value(0, 0), 0);
    }
}
