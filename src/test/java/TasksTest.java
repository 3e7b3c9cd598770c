/** Promises 25, 32, 43, 44, 46 and term 5: what tasks do. */
public final class TasksTest {
    private static final int BAD = RobotCellHouse.BAD, NO = RobotCellHouse.NO, FULL = RobotCellHouse.FULL;

    public static void main(String[] args) {
        numbers();
        leftAndRight();
        errors();
        turns();
        parts();
        twenty();
        routines();
        waits();
        locks();
        newTasks();
        tries();
        leavings();
        watches();
        faulted();
        questions();
        Due.end();
    }

    private static RobotCellHouse house(String text) {
        RobotCellHouse x = new RobotCellHouse();
        x.arm(0, 0, 0, 0);
        x.joint(0, 0, -50, 50, 100);
        x.person(0, true);
        int routines = Due.program(x, 0, text);
        if (routines < 0) Due.is("program of " + text, routines, 0);
        x.open();
        return x;
    }

    /** The events of a first task that begins with the first routine, behind some ticks. */
    private static void does(String text, int ticks, String events) {
        RobotCellHouse x = house(text);
        Due.is("start of " + text, x.start(0, 0), 0);
        x.run(ticks);
        Due.eventsAre(text, x, events);
    }

    private static void value(String exp, int due) {
        RobotCellHouse x = house("var a, b, c; to r: a = 7; b = -3; c = " + exp + "; end");
        x.start(0, 0);
        x.run(2);
        Due.is(exp, x.variable(0, 2), due);
        Due.is("end of " + exp, x.task(0, 0), 6);
    }

    private static void numbers() {
        value("1 + 2 * 3 - 4", 3);
        value("(1 + 2) * 3", 9);
        value("10 - 3 - 2", 5);
        value("-7 / 2", -3);
        value("7 / -2", -3);
        value("-7 % 3", -1);
        value("7 % -3", 1);
        value("2 * -a", -14);
        value("--a", 7);
        value("-2 * 3 + 10", 4);
        value("2147483647 + 1", Integer.MIN_VALUE);
        value("65535 + 65536 * 65537", 65535 + 65536 * 65537);
        value("-2147483647 - 2", Integer.MAX_VALUE);
        value("(-2147483647 - 1) / -1", Integer.MIN_VALUE);
        value("(-2147483647 - 1) % -1", 0);
        value("a = 7", 1);
        value("a != 7", 0);
        value("a < 7", 0);
        value("a <= 7", 1);
        value("a <= 6", 0);
        value("a < 8", 1);
        value("a = 6", 0);
        value("a != 6", 1);
        value("b > -4", 1);
        value("b >= -2", 0);
        value("b > -3", 0);
        value("b >= -3", 1);
        value("a - 4 = 3", 1);
        value("not a", 0);
        value("not not a", 1);
        value("not a = 6", 1);
        value("a and b", 1);
        value("a and 0", 0);
        value("0 or b", 1);
        value("0 or 0", 0);
        value("0 and 0 or 1", 1);
        value("1 or 0 and 0", 1);
        value("(5)", 5);
        value("time", 1);
        value("error", 0);
        value("power", 0);
        value("holding", 0);
        value("joint(0) + signal(63)", 0);
        value("1000000", 1000000);
    }

    private static void leftAndRight() {
        value("0 and 1 / 0", 0);
        value("3 or 1 / 0", 1);
        does("to r: note 1 and 1 / 0; end", 1, "1:5(0,1)");
        does("to r: note 0 or 1 / 0; end", 1, "1:5(0,1)");
        // All that a statement reckons comes ahead of what it does.
        does("to r: set 64, 1 / 0; end", 1, "1:5(0,1)");
        does("to r: set signal(64), 1 / 0; end", 1, "1:5(0,2)");
        does("to r: move 1, 2, 3, 1 % 0; end", 1, "1:5(0,1)");
    }

    private static void errors() {
        does("to r: note 1 / 0; end", 1, "1:5(0,1)");
        does("to r: note 1 % 0; end", 1, "1:5(0,1)");
        does("to r: note signal(64); end", 1, "1:5(0,2)");
        does("to r: note signal(-1); end", 1, "1:5(0,2)");
        does("to r: note joint(1); end", 1, "1:5(0,2)");
        does("to r: note joint(-1); end", 1, "1:5(0,2)");
        does("to r: set -1, 0; end", 1, "1:5(0,2)");
        does("to r: set 64, 0; end", 1, "1:5(0,2)");
        does("to r: take 8; end", 1, "1:5(0,2)");
        does("to r: take -1; end", 1, "1:5(0,2)");
        does("to r: watch 64, r; end", 1, "1:5(0,2)");
        does("to r: watch -2, r; end", 1, "1:5(0,2)");
        does("to r: move 1, 2; end", 1, "1:5(0,3)");
        does("to r: move 51; end", 1, "1:5(0,3)");
        does("to r: move -51; end", 1, "1:5(0,3)");
        does("to r: move 50; end", 1, "1:5(0,5)");
        does("to r: grip; end", 1, "1:5(0,7)");
        does("to r: drop; end", 1, "1:5(0,7)");
        does("to r: free 0; end", 1, "1:5(0,9)");
        does("to r: take 0; take 0; end", 1, "1:5(0,9)");
        does("to r: raise 0; end", 1, "1:5(0,0)");
        does("to r: raise -2147483647 - 1; end", 1, "1:5(0,-2147483648)");
        RobotCellHouse x = house("to r: move 50; end to s: wait 1; move 50; end to t: wait 1; move 51; end");
        x.reset(0);
        x.start(0, 0);
        x.start(0, 1);
        x.run(2);
        Due.is("an arm that does not stand", x.task(1, 2), 4);
        x.stop(-1);
        x.acknowledge(0);
        x.start(0, 2);
        x.run(2);
        Due.is("a broken move", x.task(0, 2), 6);
        RobotCellHouse y = house("to r: move 50; end to t: move 51; end");
        y.reset(0);
        y.start(0, 0);
        y.start(0, 1);
        y.run(1);
        Due.is("error 3 comes ahead of 4", y.task(1, 2), 3);
    }

    private static void turns() {
        does("to r: note 1; wait 2; note time; wait 0; wait -1; note time; end", 5, "1:1(0,1) 3:1(0,3) 3:1(0,3) 3:4(0,0)");
        does("to r: until time > 2; note time; end", 4, "3:1(0,3) 3:4(0,0)");
        does("to r: until 1; note time; end", 4, "1:1(0,1) 1:4(0,0)");
        does("to r: until 1 / (time - 3) = 9; end", 5, "3:5(0,1)");
        does("to r: try: until 1 / (time - 3) = 9; catch: note error; end end", 5, "3:1(0,1) 3:4(0,0)");
        // By their numbers, and behind what the others did in this tick.
        RobotCellHouse x = house("to r: until signal(0); note 1; end to s: wait 1; set 0, 1; end");
        x.start(0, 0);
        x.start(0, 1);
        x.start(0, 0);
        x.run(3);
        Due.eventsAre("turns", x, "2:4(1,0) 2:1(2,1) 2:4(2,0) 3:1(0,1) 3:4(0,0)");
    }

    private static void parts() {
        does("to r: if 0: note 1; else: note 2; end note 3; end", 1, "1:1(0,2) 1:1(0,3) 1:4(0,0)");
        does("to r: if -5: note 1; else: note 2; end note 3; end", 1, "1:1(0,1) 1:1(0,3) 1:4(0,0)");
        does("to r: if 0: note 1; end note 3; end", 1, "1:1(0,3) 1:4(0,0)");
        does("to r: while 0: note 1; end note 3; end", 1, "1:1(0,3) 1:4(0,0)");
        does("var a; to r: while a < 3: a = a + 1; if a = 2: note 2; else: if a = 3: note 3; else: note 1; end end end end", 1,
                "1:1(0,1) 1:1(0,2) 1:1(0,3) 1:4(0,0)");
    }

    private static void twenty() {
        RobotCellHouse x = house("var a; to r: while 1: a = a + 1; end end");
        x.start(0, 0);
        x.run(1);
        Due.is("ten tests and ten sums", x.variable(0, 0), 10);
        Due.is("READY", x.task(0, 0), 1);
        x.run(1);
        Due.is("ten more", x.variable(0, 0), 20);
        // The first test, then if, try and the sum in it, and the next test: four each.
        RobotCellHouse y = house("var a; to r: while 1: if 1: try: a = a + 1; finally: end else: end end end");
        y.start(0, 0);
        y.run(1);
        Due.is("five times four", y.variable(0, 0), 5);
        // call and return count, what is behind the last statement of a routine does not.
        RobotCellHouse z = house("var a; to r: while 1: call s; end end to s: a = a + 1; return; end");
        z.start(0, 0);
        z.run(1);
        Due.is("test, call, sum, return", z.variable(0, 0), 5);
        String nineteen = "note 1; ".repeat(19);
        does("to r: " + nineteen + "grip; end", 1, "1:1(0,1) ".repeat(19) + "1:5(0,7)");
        does("to r: note 1; " + nineteen + "grip; end", 2, "1:1(0,1) ".repeat(20) + "2:5(0,7)");
        // Going on is no statement.
        does("to r: wait 1; " + nineteen + "grip; end", 2, "2:1(0,1) ".repeat(19) + "2:5(0,7)");
        does("to r: until time = 2; " + nineteen + "grip; end", 2, "2:1(0,1) ".repeat(19) + "2:5(0,7)");
    }

    private static void routines() {
        RobotCellHouse x = house("var a; to r: a = a + 1; wait 1; call r; end");
        x.start(0, 0);
        x.run(20);
        Due.is("twenty are open", x.task(0, 3), 20);
        Due.is("variable", x.variable(0, 0), 20);
        x.run(1);
        Due.is("one more", x.task(0, 2), 8);
        Due.is("none is open", x.task(0, 3), 0);
        does("var a; to r: a = a + 1; try: call r; catch: note a; note error; end a = a - 1; end", 9,
                "4:1(0,20) 4:1(0,8) 5:4(0,0)");
        does("to r: call s; note 2; end to s: note 1; return; note 9; end", 1, "1:1(0,1) 1:1(0,2) 1:4(0,0)");
    }

    private static void waits() {
        RobotCellHouse x = house("to r: wait 2147483647; end to s: wait 3; end");
        x.start(0, 0);
        x.start(0, 1);
        x.run(3);
        Due.is("WAITING", x.task(1, 0), 3);
        x.run(1);
        Due.is("ENDED", x.task(1, 0), 6);
        x.run(1000);
        Due.is("still WAITING", x.task(0, 0), 3);
    }

    private static void locks() {
        RobotCellHouse x = house("to r: take 3; wait 4; free 3; wait 9; end to s: take 3; note time; wait 2; end "
                + "to t: wait 1; take 3; note time; end to u: take 0; take 7; raise 5; end");
        x.start(0, 0);
        x.start(0, 2);
        x.start(0, 1);
        x.run(2);
        Due.is("held by", x.lock(3), 0);
        Due.is("LOCKED", x.task(1, 0), 5);
        Due.is("LOCKED, too", x.task(2, 0), 5);
        x.run(3);
        Due.is("the one that waited longest", x.lock(3), 2);
        Due.is("the other one is LOCKED still", x.task(1, 0), 5);
        x.run(2);
        Due.is("its end frees it", x.lock(3), 1);
        x.run(1);
        Due.is("free", x.lock(3), -1);
        Due.eventsAre("locks", x, "5:1(2,5) 7:4(2,0) 8:1(1,8) 8:4(1,0)");
        x.start(0, 3);
        x.run(1);
        Due.is("a fault frees 0", x.lock(0), -1);
        Due.is("a fault frees 7", x.lock(7), -1);
        RobotCellHouse y = house("to r: wait 1; take 0; note time; end to s: take 0; wait 3; end");
        y.start(0, 0);
        y.start(0, 1);
        y.run(5);
        Due.eventsAre("the first task waits", y, "4:4(1,0) 5:1(0,5) 5:4(0,0)");
        Due.is("lock(8)", x.lock(8), BAD);
        Due.is("lock(-1)", x.lock(-1), BAD);
    }

    private static void newTasks() {
        RobotCellHouse x = house("to r: note 1; run s; note 2; end to s: note time; wait 5; end");
        x.start(0, 0);
        x.run(1);
        Due.eventsAre("run", x, "1:1(0,1) 1:1(0,2) 1:4(0,0)");
        Due.is("the new one is READY", x.task(1, 0), 1);
        x.run(1);
        Due.is("it acts in the next tick", x.event(3, 3), 2);
        Due.is("start takes the least that ENDED", x.start(0, 0), 0);
        for (int t = 2; t < 16; t++) Due.is("start " + t, x.start(0, 1), t);
        Due.is("start 16", x.start(0, 1), FULL);
        Due.is("a wrong start 16", x.start(0, 2), BAD);
        Due.is("start of routine -1", x.start(0, -1), BAD);
        Due.is("start of arm 1", x.start(1, 0), BAD);
        x.run(1);
        Due.is("run without a task that is NONE or ENDED", x.task(0, 2), 10);
    }

    private static void tries() {
        does("to r: try: note 1; catch: note 2; end note 3; end", 1, "1:1(0,1) 1:1(0,3) 1:4(0,0)");
        does("to r: try: raise 4; note 1; catch: note error; end note 3; end", 1, "1:1(0,4) 1:1(0,3) 1:4(0,0)");
        does("to r: try: note 1; finally: note 2; end end", 1, "1:1(0,1) 1:1(0,2) 1:4(0,0)");
        does("to r: try: raise 4; finally: note error; end end", 1, "1:1(0,0) 1:5(0,4)");
        does("to r: try: raise 4; end end", 1, "1:5(0,4)");
        does("to r: try: try: raise 4; end catch: note error; end end", 1, "1:1(0,4) 1:4(0,0)");
        does("to r: try: raise 4; catch: raise 5; finally: note error; end end", 1, "1:1(0,4) 1:5(0,5)");
        does("to r: try: try: raise 4; finally: raise 5; end catch: note error; end end", 1, "1:1(0,5) 1:4(0,0)");
        does("to r: try: try: raise 4; catch: raise 5; end catch: note error; end note error; end", 1,
                "1:1(0,5) 1:1(0,5) 1:4(0,0)");
        does("to r: try: call s; catch: note error; finally: note 2; end end to s: try: raise 6; finally: note 1; end end",
                1, "1:1(0,1) 1:1(0,6) 1:1(0,2) 1:4(0,0)");
        does("to r: try: raise 4; finally: wait 2; note 1; end end", 4, "3:1(0,1) 3:5(0,4)");
        does("to r: try: wait 1; raise 7; catch: wait 1; note error; end end", 4, "3:1(0,7) 3:4(0,0)");
    }

    private static void leavings() {
        does("to r: call s; note 9; end to s: try: return; finally: note 1; end note 2; end", 1, "1:1(0,1) 1:1(0,9) 1:4(0,0)");
        does("to r: while 1: try: break; finally: note 1; end note 2; end note 3; end", 1, "1:1(0,1) 1:1(0,3) 1:4(0,0)");
        does("to r: while 1: try: raise 4; finally: break; end end note error; end", 1, "1:1(0,0) 1:4(0,0)");
        does("to r: try: raise 4; finally: return; end end", 1, "1:4(0,0)");
        does("to r: try: return; finally: raise 4; end end", 1, "1:5(0,4)");
        does("to r: while 1: try: try: break; finally: note 1; end finally: note 2; end end note 3; end", 1,
                "1:1(0,1) 1:1(0,2) 1:1(0,3) 1:4(0,0)");
        does("to r: try: return; catch: note 8; finally: while 1: break; end note 1; end note 2; end", 1, "1:1(0,1) 1:4(0,0)");
        does("to r: try: raise 1; catch: return; finally: note 1; end note 2; end", 1, "1:1(0,1) 1:4(0,0)");
        does("to r: while 1: while 1: break; end note 1; break; end end", 1, "1:1(0,1) 1:4(0,0)");
        does("var a; to r: while a < 2: a = a + 1; try: if a = 2: break; end finally: note a; end end note 7; end", 1,
                "1:1(0,1) 1:1(0,2) 1:1(0,7) 1:4(0,0)");
    }

    private static void watches() {
        does("to r: watch 0, s; set 0, 1; note 1; end to s: note 2; end", 1, "1:1(0,2) 1:1(0,1) 1:4(0,0)");
        does("to r: watch 0, s; watch -1, s; set 0, 1; note 1; end to s: note 2; end", 1, "1:1(0,1) 1:4(0,0)");
        does("to r: set 0, 1; watch 0, s; set 0, 2; note 1; end to s: note 2; end", 1, "1:1(0,1) 1:4(0,0)");
        // Not while a routine that a watch called is done, but behind it.
        does("var a; to r: watch 0, s; set 0, 1; note 1; end to s: a = a + 1; if a < 3: set 0, 0; set 0, 1; end note 2; end",
                1, "1:1(0,2) 1:1(0,2) 1:1(0,2) 1:1(0,1) 1:4(0,0)");
        does("var a; to r: watch 0, s; set 0, 1; note 1; end to s: note 5; a = a + 1; if a < 2: set 0, 0; set 0, 1; end call t; note 6; end "
                + "to t: note 7; end", 2, "1:1(0,5) 1:1(0,7) 1:1(0,6) 1:1(0,5) 1:1(0,7) 1:1(0,6) 1:1(0,1) 1:4(0,0)");
        // No statement follows the last one: nothing is looked at.
        does("to r: watch 0, s; set 0, 1; end to s: note 2; end", 1, "1:4(0,0)");
        // Ahead of each test of a while, too; the call counts as no statement.
        does("var a; to r: watch 0, s; while a < 1: set 0, 1; end note 3; end to s: a = 1; end", 1, "1:1(0,3) 1:4(0,0)");
        // Its errors go to the try in which it was called.
        does("to r: watch 0, s; try: set 0, 1; note 1; catch: note error; end end to s: raise 5; end", 1, "1:1(0,5) 1:4(0,0)");
        does("to r: watch 0, s; set 0, 1; try: note 1; catch: note error; end end to s: raise 5; end", 1, "1:5(0,5)");
        // Not first thing in a turn that reckons an until, but ahead of what follows.
        RobotCellHouse x = house("to r: watch 0, s; until signal(1); note 1; end to s: note 2; end");
        x.start(0, 0);
        x.run(1);
        x.set(0, 1);
        x.run(2);
        Due.is("no event yet", x.events(), 0);
        x.set(1, 1);
        x.run(1);
        Due.eventsAre("a watch behind until", x, "4:1(0,2) 4:1(0,1) 4:4(0,0)");
        // The 21st statement would not begin in this turn: the watch is looked at in the next one.
        String eighteen = "note 1; ".repeat(18);
        does("to r: watch 0, s; " + eighteen + "set 0, 1; note 3; end to s: note 2; end", 2,
                "1:1(0,1) ".repeat(18) + "2:1(0,2) 2:1(0,3) 2:4(0,0)");
        // Twenty are open: error 8 at that place, and the statement has not begun.
        does("var a; to r: a = a + 1; if a < 20: call r; return; end watch 0, s; try: set 0, 1; note 1; catch: note error; end end "
                + "to s: note 2; end", 6, "4:1(0,8) 5:4(0,0)");
    }

    private static void faulted() {
        RobotCellHouse x = house("to r: wait 2; raise 5; end to s: note time; wait 1; note time; end to m: move 50; end");
        x.reset(0);
        Due.is("acknowledge of none", x.acknowledge(0), NO);
        Due.is("acknowledge of arm 1", x.acknowledge(1), BAD);
        x.start(0, 2);
        x.start(0, 0);
        x.start(0, 1);
        x.run(3);
        Due.is("FAULTED", x.task(1, 0), 7);
        Due.is("state(0, 3)", x.state(0, 3), 1);
        Due.is("the arm brakes", x.state(0, 0), 2);
        Due.is("start of a new one", x.start(0, 1), 2);
        x.run(5);
        Due.is("it has no turns", x.task(2, 0), 1);
        Due.eventsAre("a fault", x, "0:3(0,0) 1:1(2,1) 2:1(2,2) 2:4(2,0) 3:5(1,5) 3:9(0,0)");
        Due.is("acknowledge", x.acknowledge(0), 1);
        Due.is("it has ENDED", x.task(1, 0), 6);
        Due.is("its error stays", x.task(1, 2), 5);
        Due.is("no event", x.events(), 6);
        x.run(1);
        Due.is("the broken move", x.task(0, 2), 6);
        Due.is("its error", x.state(0, 3), 0);
        x.acknowledge(0);
        Due.is("a new task in its place", x.start(0, 1), 0);
        Due.is("has no error", x.task(0, 2), 0);
    }

    private static void questions() {
        RobotCellHouse x = house("to r: wait 5; end");
        Due.is("task(16, 0)", x.task(16, 0), BAD);
        Due.is("task(-1, 0)", x.task(-1, 0), BAD);
        Due.is("task(0, 4)", x.task(0, 4), BAD);
        Due.is("task(0, -1)", x.task(0, -1), BAD);
        Due.is("arm of NONE", x.task(15, 1), -1);
        x.start(0, 0);
        Due.is("READY", x.task(0, 0), 1);
        Due.is("its arm", x.task(0, 1), 0);
        Due.is("its routines", x.task(0, 3), 1);
        Due.is("state(0, 8)", x.state(0, 8), BAD);
        Due.is("state(0, -1)", x.state(0, -1), BAD);
        Due.is("state(1, 0)", x.state(1, 0), BAD);
        Due.is("state(0, 2)", x.state(0, 2), -1);
        Due.is("state(0, 3)", x.state(0, 3), -1);
        Due.is("state(0, 4)", x.state(0, 4), 1);
    }
}
