/** Promises 17 to 20, 29 to 31, 48 to 50 and terms 7, 8: inputs, power, trips, zones and events. */
public final class SafetyTest {
    private static final int BAD = RobotCellHouse.BAD, NO = RobotCellHouse.NO;

    public static void main(String[] args) {
        channels();
        faultyInputs();
        noCallBeginsAnew();
        resets();
        tripsByInput();
        tripsByTouch();
        firstArm();
        zones();
        zoneOfAnotherArm();
        zoneByHand();
        phases();
        events();
        Due.end();
    }

    private static void causeIs(String what, RobotCellHouse x, int kind, int number, int tick) {
        Due.is(what + ": kind", x.safety(1), kind);
        Due.is(what + ": number", x.safety(2), number);
        Due.is(what + ": tick", x.safety(3), tick);
    }

    private static void channels() {
        RobotCellHouse x = new RobotCellHouse();
        x.input(0);
        x.input(5);
        x.person(0, true);
        x.open();
        causeIs("before any trip", x, 0, 0, 0);
        Due.is("channel(2)", x.channel(2, true, true), BAD);
        Due.is("channel(-1)", x.channel(-1, true, true), BAD);
        Due.is("channel", x.channel(1, false, false), 0);
        Due.is("not well", x.safety(5), 0);
        Due.is("the other one is", x.safety(4), 1);
        Due.is("reset", x.reset(0), NO);
        x.run(9);
        Due.is("channels that do not differ", x.safety(5), 0);
        x.channel(1, true, true);
        Due.is("well", x.safety(5), 1);
        Due.is("safety(6)", x.safety(6), BAD);
        Due.is("reset then", x.reset(0), 1);
    }

    private static void faultyInputs() {
        for (int differ = 0; differ < 4; differ++) {
            RobotCellHouse x = new RobotCellHouse();
            x.input(differ);
            x.open();
            x.channel(0, false, true);
            for (int tick = 1; tick <= 5; tick++) {
                x.run(1);
                Due.is("differ " + differ + " in tick " + tick, x.safety(4), tick > differ ? 2 : 0);
            }
            x.channel(0, true, true);
            x.run(3);
            Due.is("it stays faulty", x.safety(4), 2);
        }
        RobotCellHouse y = new RobotCellHouse();
        y.input(2);
        y.open();
        for (int i = 0; i < 4; i++) {
            y.channel(0, true, false);
            y.run(2);
            y.channel(0, false, false);
            y.run(1);
            Due.is("not one behind the other", y.safety(4), 0);
        }
    }

    private static void noCallBeginsAnew() {
        RobotCellHouse x = new RobotCellHouse();
        x.input(2);
        x.person(0, true);
        x.open();
        x.channel(0, true, false);
        x.run(2);
        x.channel(0, true, true);
        x.channel(0, false, true);
        x.run(1);
        Due.is("the third tick", x.safety(4), 2);
        x.channel(0, true, true);
        Due.is("reset", x.reset(0), 1);
        Due.is("faulty no more", x.safety(4), 1);
        x.channel(0, true, false);
        Due.is("not well", x.safety(4), 0);
        x.run(1);
        Due.is("the fourth tick", x.safety(4), 2);
        causeIs("trip by it", x, 1, 0, 4);
        x.back(1);
        x.run(2);
        Due.is("but back() does", x.safety(4), 0);
    }

    private static void resets() {
        RobotCellHouse x = new RobotCellHouse();
        x.input(0);
        x.input(0);
        x.person(3, true);
        x.open();
        Due.is("reset(8)", x.reset(8), BAD);
        Due.is("reset(-1)", x.reset(-1), BAD);
        Due.is("one who may not", x.reset(2), NO);
        x.channel(0, true, false);
        x.channel(1, true, false);
        x.run(1);
        x.channel(0, true, true);
        Due.is("one is not well", x.reset(3), NO);
        Due.is("faulty ones stay as they were", x.safety(4), 2);
        x.channel(1, true, true);
        Due.is("reset", x.reset(3), 1);
        Due.is("power", x.safety(0), 1);
        Due.is("power is on", x.reset(3), NO);
        Due.eventsAre("resets", x, "1:3(3,0)");
        Due.is("rows", x.count(6), 6);
    }

    private static void tripsByInput() {
        RobotCellHouse x = new RobotCellHouse();
        for (int i = 0; i < 3; i++) x.input(9);
        x.person(0, true);
        x.arm(0, 0, 0, 0);
        x.joint(0, 0, 0, 1000, 100);
        Due.program(x, 0, "to r: note power; move 1000; end to s: wait 2; note power; end");
        x.open();
        x.reset(0);
        x.start(0, 0);
        x.start(0, 1);
        x.run(2);
        x.channel(2, false, false);
        x.channel(1, true, false);
        x.run(1);
        causeIs("the least that is not well", x, 1, 1, 3);
        Due.is("the arm stands where it was", x.value(0, 0), 30);
        Due.is("the arm stands", x.state(0, 0), 0);
        // The trip is in phase 2: the tasks of this tick have their turns behind it.
        Due.eventsAre("a trip by an input", x, "0:3(0,0) 1:1(0,1) 3:2(1,1) 3:9(0,0) 3:5(0,6)");
        x.run(3);
        Due.is("no trip without power", x.events(), 5);
    }

    private static RobotCellHouse arms() {
        RobotCellHouse x = new RobotCellHouse();
        x.person(0, true);
        for (int a = 0; a < 3; a++) {
            x.arm(1000 * a, 0, 1024, 0);
            x.joint(a, 0, -1024, 1024, 600);
            x.pace(a, 0, 100, 100);
            Due.program(x, a, "to r: move -1024; end to s: move 1024; end");
        }
        return x;
    }

    private static void tripsByTouch() {
        RobotCellHouse x = arms();
        x.open();
        x.reset(0);
        x.start(1, 0);
        x.start(2, 1);
        x.start(0, 0);
        x.run(20);
        // Arms 1 and 2 lean towards one another, arm 0 towards arm 1, which is gone: 600 + 600 > 1000.
        Due.is("a touch", x.safety(1), 2);
        Due.is("power", x.safety(0), 0);
        int tick = x.safety(3);
        Due.is("the arms stand", x.state(1, 0) + x.state(2, 0) + x.state(0, 0), 0);
        Due.is("it touches then", x.touches(1, 0), 1);
        Due.is("the first event of it", x.event(1, 1), 2);
        Due.is("arm 0 is broken first", x.event(2, 2), 0);
        Due.is("then arm 1", x.event(3, 2), 1);
        Due.is("then arm 2", x.event(4, 2), 2);
        Due.is("in that tick", x.event(4, 0), tick);
        // With power it trips again, as it touches still.
        Due.is("reset", x.reset(0), 1);
        x.run(1);
        Due.is("a second trip", x.safety(3), 21);
    }

    private static void firstArm() {
        RobotCellHouse x = arms();
        x.ball(2000, 300, 5);
        x.open();
        x.reset(0);
        x.run(1);
        causeIs("the arm of the pair", x, 2, 2, 1);
        RobotCellHouse z = arms();
        z.ball(2006, 300, 5);
        z.open();
        z.reset(0);
        z.run(1);
        Due.is("with margin 0", z.safety(0), 1);
        RobotCellHouse y = arms();
        y.arm(2000, 300, 0, 0);
        y.joint(3, 0, 0, 0, 10);
        y.ball(2000, 310, 5);
        y.open();
        y.reset(0);
        y.run(1);
        causeIs("of two arms the first named", y, 2, 2, 1);
    }

    private static RobotCellHouse inZone(int most) {
        RobotCellHouse x = new RobotCellHouse();
        x.person(0, true);
        x.arm(0, 0, 0, 0);
        x.joint(0, 1, 0, 1000, 100);
        x.pace(0, 0, 7, 7);
        x.zone(0, -10, -10, 20, 20);
        x.zone(0, 150, 0, 100, 0);
        x.most(1, most);
        Due.program(x, 0, "to r: move 400; end");
        x.open();
        x.reset(0);
        x.start(0, 0);
        return x;
    }

    private static void zones() {
        RobotCellHouse x = inZone(-1);
        x.run(7);
        Due.is("ahead of it: 149", x.safety(0), 1);
        x.run(1);
        causeIs("any point that lies in it", x, 3, 1, 8);
        RobotCellHouse y = inZone(6);
        y.run(9);
        causeIs("farther than 6", y, 3, 1, 8);
        RobotCellHouse z = inZone(7);
        z.run(60);
        Due.is("not farther than 7", z.safety(1), 0);
        Due.is("it came through", z.value(0, 0), 400);
        RobotCellHouse e = new RobotCellHouse();
        e.person(0, true);
        e.arm(0, 0, 0, 0);
        e.joint(0, 0, 0, 0, 100);
        e.zone(0, 100, -5, 0, 5);
        e.open();
        e.reset(0);
        e.run(1);
        causeIs("its edges, too", e, 3, 0, 1);
        RobotCellHouse f = new RobotCellHouse();
        f.person(0, true);
        f.arm(0, 0, 0, 0);
        f.joint(0, 0, 0, 0, 100);
        f.ball(100, 0, 0);
        f.zone(0, 0, -50, 200, 200);
        f.open();
        f.run(3);
        Due.is("nothing without power", f.events(), 0);
        f.reset(0);
        f.run(1);
        causeIs("a touch comes ahead of a zone", f, 2, 0, 4);
    }

    private static void zoneOfAnotherArm() {
        RobotCellHouse x = arms();
        x.zone(2, 950, 550, 100, 100);
        x.zone(1, 950, 550, 100, 100);
        x.open();
        x.reset(0);
        x.run(1);
        causeIs("each zone has its arm", x, 3, 1, 1);
        x.back(0);
        causeIs("no trip at open()", x, 0, 0, 0);
    }

    /** Where it was is where it was behind the tick before, whatever a hand did since. */
    private static void zoneByHand() {
        RobotCellHouse x = new RobotCellHouse();
        x.person(0, true);
        x.arm(0, 0, 0, 0);
        x.joint(0, 1, 0, 1000, 100);
        x.zone(0, 0, -5, 2000, 10);
        x.most(0, 30);
        x.open();
        x.hand(0, 0, 31);
        x.reset(0);
        x.run(1);
        causeIs("31 from where it was at open()", x, 3, 0, 1);
        x.reset(0);
        x.run(1);
        Due.is("it was there behind the tick before", x.safety(0), 1);
        x.stop(-1);
        x.hand(0, 0, 61);
        x.reset(0);
        x.run(1);
        Due.is("30 from where it was", x.safety(0), 1);
        x.stop(-1);
        x.hand(0, 0, 500);
        x.run(1);
        x.reset(0);
        x.run(1);
        Due.is("a tick without power lies between", x.safety(0), 1);
    }

    /** Tasks see the sensor of the tick before; an arm goes in the tick in which its move begins. */
    private static void phases() {
        RobotCellHouse x = new RobotCellHouse();
        x.person(0, true);
        x.arm(0, 0, 0, 0);
        x.joint(0, 0, 0, 100, 0);
        x.belt(0, 5000, 0, 100, 0);
        x.drive(0, 10);
        x.sensor(0, 0, 10, 100);
        x.part(0, 0, 0);
        Due.program(x, 0, "to r: note signal(0); wait 1; note signal(0); move 10; end");
        x.open();
        x.reset(0);
        x.start(0, 0);
        x.run(1);
        Due.is("the sensor behind the tasks", x.signal(0, 0), 1);
        x.run(1);
        Due.is("the arm in the same tick", x.value(0, 0), 10);
        Due.eventsAre("phases", x, "0:3(0,0) 1:1(0,0) 2:1(0,1)");
    }

    private static void events() {
        RobotCellHouse x = new RobotCellHouse();
        x.arm(0, 0, 0, 0);
        Due.program(x, 0, "to r: while 1: note -1; end end");
        x.open();
        Due.is("event(0, 0) of none", x.event(0, 0), BAD);
        x.start(0, 0);
        x.run(200);
        Due.is("events", x.events(), 2000);
        Due.is("the last one that is kept", x.event(1999, 0), 200);
        Due.is("a number that is BAD", x.event(1999, 3), -1);
        Due.is("event 2000", x.event(2000, 0), BAD);
        x.run(1);
        Due.is("those that are not kept count", x.events(), 2010);
        Due.is("event 2000 is not kept", x.event(2000, 1), BAD);
        Due.is("event -1", x.event(-1, 0), BAD);
        Due.is("event(0, 4)", x.event(0, 4), BAD);
        Due.is("event(0, -1)", x.event(0, -1), BAD);
    }
}
