/** Term 5, promises 25, 32, 43, 44, 46: what tasks do at the limits, and each error at its edge. */
public final class EdgesOfTasksTest {
    private static final int BAD = RobotCellHouse.BAD, NO = RobotCellHouse.NO, FULL = RobotCellHouse.FULL;
    private static final int MIN = Integer.MIN_VALUE, MAX = Integer.MAX_VALUE;

    public static void main(String[] args) {
        wrapAround();
        divisions();
        onlyIfItCounts();
        deepestNumbers();
        states();
        sharedVariables();
        twentyOfEachKind();
        theTwentiethWaits();
        twentyRoutines();
        noSuchPointOrJoint();
        moveNumbers();
        reckonedFirst();
        waitsOfNothing();
        untils();
        lockNumbers();
        lockOrder();
        longestIsTaskZero();
        locksFreedFromZero();
        lockedWhileFaulted();
        leastTask();
        taskZeroAgain();
        thirtyTwoRoutines();
        sixteenTasks();
        watchEdges();
        watchedRoutine();
        watchWhileFull();
        gripEdges();
        errorNumbers();
        passedTries();
        finallyOnce();
        takesItsPlace();
        leftAlone();
        sixHundredTries();
        faultOfOneArm();
        faultWhileBraking();
        errorOfFaulted();
        ownMoveAlone();
        Due.end();
    }

    private static RobotCellHouse built(String text) {
        RobotCellHouse x = new RobotCellHouse();
        x.arm(0, 0, 0, 0);
        x.joint(0, 0, -50, 50, 100);
        x.person(0, true);
        int routines = Due.program(x, 0, text);
        if (routines < 0) Due.is("program of " + text, routines, 0);
        return x;
    }

    private static RobotCellHouse house(String text) {
        RobotCellHouse x = built(text);
        x.open();
        return x;
    }

    /** The events of a first task that begins with the first routine, behind some ticks. */
    private static void does(String text, int ticks, String events) {
        RobotCellHouse x = house(text);
        Due.is("start of " + text, x.start(0, 0), 0);
        x.run(ticks);
        Due.eventsAre(text, x, events);
    }

    private static void value(String exp, int due) {
        RobotCellHouse x = house("var min, c; to r: min = -2147483647 - 1; c = " + exp + "; end");
        x.start(0, 0);
        x.run(1);
        Due.is(exp, x.variable(0, 1), due);
        Due.is("end of " + exp, x.task(0, 0), 6);
    }

    private static void fails(String exp, int error) {
        RobotCellHouse x = house("var min, c; to r: min = -2147483647 - 1; c = " + exp + "; end");
        x.start(0, 0);
        x.run(1);
        Due.is("error of " + exp, x.task(0, 2), error);
        Due.is("state behind " + exp, x.task(0, 0), 7);
        Due.is("nothing is set by " + exp, x.variable(0, 1), 0);
    }

    private static void wrapAround() {
        value("2147483647", MAX);
        value("-2147483647", -MAX);
        value("min", MIN);
        value("2147483647 + 1", MIN);
        value("2147483647 + 2147483647", -2);
        value("min - 1", MAX);
        value("min + min", 0);
        value("-min", MIN);
        value("0 - min", MIN);
        value("min * -1", MIN);
        value("65536 * 65536", 0);
        value("65536 * 32768", MIN);
        value("46341 * 46341", 46341 * 46341);
        value("2147483647 * 2147483647", 1);
        value("min < 2147483647", 1);
        value("min - 1 > min", 1);
        value("65535", 65535);
        value("65536", 65536);
        value("131071", 131071);
    }

    private static void divisions() {
        value("min / -1", MIN);
        value("min % -1", 0);
        value("min / 1", MIN);
        value("min / min", 1);
        value("2147483647 / min", 0);
        value("2147483647 % min", MAX);
        value("7 / 2", 3);
        value("-7 / 2", -3);
        value("7 / -2", -3);
        value("-7 / -2", 3);
        value("7 % 2", 1);
        value("-7 % 2", -1);
        value("7 % -2", 1);
        value("-7 % -2", -1);
        value("0 / 5", 0);
        value("0 % -5", 0);
        fails("1 / 0", 1);
        fails("1 % 0", 1);
        fails("0 / 0", 1);
        fails("min / 0", 1);
        fails("min % (1 - 1)", 1);
    }

    private static void onlyIfItCounts() {
        value("1 or 1 / 0", 1);
        value("5 or 0", 1);
        value("0 or 7", 1);
        value("0 or 0", 0);
        value("0 and 1 / 0", 0);
        value("5 and 7", 1);
        value("5 and 0", 0);
        value("5 - (0 and 1)", 5);
        value("5 - (1 or 0)", 4);
        value("5 - (1 and 0)", 5);
        value("5 - (0 or 0)", 5);
        value("min and -1", 1);
        value("not min", 0);
        value("not 0", 1);
        value("not not 9", 1);
        value("1 or 0 and 1 / 0", 1);
        value("0 and 1 / 0 or 3", 1);
        value("(0 and 1 / 0) + 1", 1);
        value("9 or 1 / 0 or 1 / 0", 1);
        fails("0 or 1 / 0", 1);
        fails("1 and 1 / 0", 1);
        fails("0 or 0 or 1 % 0", 1);
    }

    /** Three numbers in hand in each of thirty ( .. ), and what errors in the innermost leave behind. */
    private static void deepestNumbers() {
        // Each turns 0 to 1 and 1 to 0.
        for (int n = 28; n <= 30; n++) value("2 <= 2 - 1 * (".repeat(n) + "1" + ")".repeat(n), 1 - n % 2);
        int due = 1;
        for (int i = 0; i < 30; i++) due = 3 + 2 * due;
        String sum = "3 + 2 * (".repeat(30) + "1" + ")".repeat(30);
        value(sum, due);
        String fault = "try: c = " + "7 * (1 + 9 * (".repeat(14) + "1 / 0" + "))".repeat(14) + "; catch: end ";
        RobotCellHouse x = house("var c; to r: " + fault.repeat(8) + "c = " + sum + "; note c; end");
        x.start(0, 0);
        x.run(1);
        Due.eventsAre("behind eight errors", x, "1:1(0," + due + ") 1:4(0,0)");
    }

    private static void states() {
        RobotCellHouse x = house("to m: move 50; end to w: wait 3; end to u: until 0; end to t: take 0; take 1; wait 9; end "
                + "to l: wait 1; take 0; end to f: wait 2; raise 1; end to e: end to y: while 1: end end");
        x.reset(0);
        int[] due = {2, 3, 4, 3, 5, 3, 6, 1};
        for (int r = 0; r < 8; r++) {
            Due.is("NONE", x.task(r, 0), 0);
            Due.is("arm of NONE", x.task(r, 1), -1);
            Due.is("error of NONE", x.task(r, 2), 0);
            Due.is("routines of NONE", x.task(r, 3), 0);
            Due.is("start " + r, x.start(0, r), r);
            Due.is("READY", x.task(r, 0), 1);
        }
        x.run(2);
        for (int t = 0; t < 8; t++) Due.is("state of task " + t, x.task(t, 0), due[t]);
        x.run(1);
        due[5] = 7;
        for (int t = 0; t < 8; t++) Due.is("then the state of task " + t, x.task(t, 0), due[t]);
        for (int t = 0; t < 8; t++) Due.is("routines of task " + t, x.task(t, 3), due[t] == 6 || due[t] == 7 ? 0 : 1);
        for (int t = 0; t < 8; t++) Due.is("arm of task " + t, x.task(t, 1), 0);
    }

    private static void sharedVariables() {
        RobotCellHouse x = built("var a; to r: a = a + 1; end");
        x.arm(900, 900, 0, 0);
        Due.program(x, 1, "var a; to r: a = a + 10; end");
        x.open();
        x.start(0, 0);
        x.start(0, 0);
        x.start(1, 0);
        x.run(1);
        Due.is("two tasks of an arm", x.variable(0, 0), 2);
        Due.is("one of the other", x.variable(1, 0), 10);
        x.start(0, 0);
        x.run(1);
        Due.is("they stay behind tasks", x.variable(0, 0), 3);
        x.back(0);
        Due.is("0 at first", x.variable(0, 0), 0);
    }

    /** As many of each kind as a turn has room for: the note behind them falls into the next one. */
    private static void twentyOfEachKind() {
        String[] ones = {"a = 1;", "wait 0;", "until 1;", "set 9, 1;", "note 0;", "watch -1, r;", "if 0: note 9; end",
            "if 1: else: note 9; end", "try: end", "try: catch: end", "try: finally: end", "while 0: note 9; end", "call e;"};
        for (String one : ones) {
            for (int n = 19; n <= 20; n++) {
                RobotCellHouse x = house("var a; to r: " + (one + " ").repeat(n) + "set 0, 1; end to e: end");
                x.start(0, 0);
                x.run(1);
                Due.is(n + " times " + one, x.signal(0, 0), n == 19 ? 1 : 0);
                x.run(1);
                Due.is(n + " times " + one + " in two", x.signal(0, 0), 1);
            }
        }
        // Two each: the statement and what is in its part; or the test, again.
        String[] twos = {"if 1: a = 1; end", "if 0: else: a = 1; end", "try: a = 1; end", "try: finally: a = 1; end",
            "call o;", "a = 0; while a = 1: end", "try: raise 1; catch: end"};
        for (String two : twos) {
            for (int n = 9; n <= 10; n++) {
                RobotCellHouse x = house("var a; to r: note 0; " + (two + " ").repeat(n) + "set 0, 1; end to o: a = 1; end");
                x.start(0, 0);
                x.run(1);
                Due.is(n + " times " + two, x.signal(0, 0), n == 9 ? 1 : 0);
            }
        }
    }

    private static void theTwentiethWaits() {
        String nineteen = "note 0;".repeat(19);
        RobotCellHouse x = house("to r: " + nineteen + "wait 1; set 0, 1; end");
        x.start(0, 0);
        x.run(1);
        Due.is("the twentieth waits", x.task(0, 0), 3);
        x.run(1);
        Due.is("it goes on", x.signal(0, 0), 1);
        RobotCellHouse y = house("to r: " + nineteen + "call s; note 9; end to s: set 0, 1; end");
        y.start(0, 0);
        y.run(1);
        Due.is("the twentieth calls", y.task(0, 3), 2);
        Due.is("nothing of it has begun", y.signal(0, 0), 0);
        RobotCellHouse z = house("to r: note 0;" + nineteen + "raise 5; end");
        z.start(0, 0);
        z.run(1);
        Due.is("the 21st does not begin", z.task(0, 0), 1);
        z.run(1);
        Due.is("it does in the next turn", z.task(0, 2), 5);
    }

    private static void twentyRoutines() {
        RobotCellHouse x = house("var a; to r: a = a + 1; if a < 20: call r; end wait 9; end");
        x.start(0, 0);
        x.run(4);
        Due.is("twenty are open", x.task(0, 3), 20);
        Due.is("no error", x.task(0, 0), 3);
        RobotCellHouse y = house("var a; to r: a = a + 1; if a < 21: call r; end wait 9; end");
        y.start(0, 0);
        y.run(4);
        Due.is("the 21st", y.task(0, 2), 8);
        Due.is("none is open", y.task(0, 3), 0);
        // As many calls as you like, one behind the other.
        RobotCellHouse z = house("var a; to r: while a < 100: a = a + 1; call s; end end to s: end");
        z.start(0, 0);
        z.run(16);
        Due.is("a hundred calls", z.variable(0, 0), 100);
        Due.is("no error", z.task(0, 0), 6);
    }

    private static void noSuchPointOrJoint() {
        fails("signal(-1)", 2);
        fails("signal(64)", 2);
        fails("signal(min)", 2);
        fails("signal(2147483647)", 2);
        value("signal(0) + signal(63)", 0);
        fails("joint(-1)", 2);
        fails("joint(1)", 2);
        fails("joint(min)", 2);
        value("joint(0)", 0);
        does("to r: set 63, 1; set 0, 1; set 64, 1; end", 1, "1:5(0,2)");
        does("to r: set 0 - 1, 1; end", 1, "1:5(0,2)");
    }

    private static void moveError(int joints, String move, int error) {
        RobotCellHouse x = new RobotCellHouse();
        x.arm(0, 0, 0, 0);
        for (int j = 0; j < joints; j++) x.joint(0, 0, -5, 5, 10);
        Due.program(x, 0, "to r: " + move + "; end");
        x.open();
        x.start(0, 0);
        x.run(1);
        Due.is(move + " of " + joints + " joints", x.task(0, 2), error);
    }

    /** Without power a move that is right is error 5. */
    private static void moveNumbers() {
        moveError(0, "move 0", 3);
        moveError(1, "move 0", 5);
        moveError(1, "move 5", 5);
        moveError(1, "move -5", 5);
        moveError(1, "move 6", 3);
        moveError(1, "move -6", 3);
        moveError(1, "move 2147483647", 3);
        moveError(1, "move 0, 0", 3);
        moveError(2, "move 0", 3);
        moveError(2, "move 5, -5", 5);
        moveError(2, "move 5, -6", 3);
        moveError(2, "move 0, 0, 0", 3);
        moveError(6, "move 0, 0, 0, 0, 0", 3);
        moveError(6, "move 5, 5, 5, 5, 5, -5", 5);
        moveError(6, "move 0, 0, 0, 0, 0, 6", 3);
        moveError(6, "move 0, 0, 0, 0, 0, 0, 0", 3);
    }

    /** All exps are reckoned from the left, before anything is done: the first error among them counts. */
    private static void reckonedFirst() {
        does("to r: set 64, 1 / 0; end", 1, "1:5(0,1)");
        does("to r: set signal(64), 1 / 0; end", 1, "1:5(0,2)");
        does("to r: move 99, 1 / 0; end", 1, "1:5(0,1)");
        does("to r: move signal(64), 1 / 0; end", 1, "1:5(0,2)");
        does("to r: take 8 + 1 / 0; end", 1, "1:5(0,1)");
        does("to r: watch signal(64), r; end", 1, "1:5(0,2)");
        does("to r: note 1 / 0 + signal(64); end", 1, "1:5(0,1)");
        does("to r: note signal(64) + 1 / 0; end", 1, "1:5(0,2)");
        does("var a; to r: try: set a, 1 / 0; catch: note signal(0); end end", 1, "1:1(0,0) 1:4(0,0)");
    }

    private static void waitsOfNothing() {
        does("to r: wait 0; note time; end", 2, "1:1(0,1) 1:4(0,0)");
        does("to r: wait -2147483647 - 1; note time; end", 2, "1:1(0,1) 1:4(0,0)");
        does("to r: wait 1; note time; end", 3, "2:1(0,2) 2:4(0,0)");
        does("to r: wait 2; note time; end", 3, "3:1(0,3) 3:4(0,0)");
        RobotCellHouse x = house("to r: wait 2147483647; end to s: wait 999; note time; end");
        x.start(0, 0);
        x.start(0, 1);
        x.run(999);
        Due.is("999 ticks are not over", x.events(), 0);
        x.run(1);
        Due.is("then they are", x.event(0, 3), 1000);
        for (int i = 0; i < 5; i++) x.run(1000);
        Due.is("the longest wait", x.task(0, 0), 3);
    }

    private static void untils() {
        RobotCellHouse x = house("to r: until signal(0); note time; end");
        x.start(0, 0);
        x.run(1);
        Due.is("UNTIL", x.task(0, 0), 4);
        x.set(0, -1);
        x.run(1);
        Due.eventsAre("all but 0 is TRUE", x, "2:1(0,2) 2:4(0,0)");
        // Reckoned in each turn, which is no statement.
        does("var a; to r: until time >= 3; " + "note 1;".repeat(19) + " note 2; note 3; end", 3,
                ("3:1(0,1) ".repeat(19) + "3:1(0,2)").trim());
        does("to r: until 1 / (3 - time); note time; end", 4, "2:1(0,2) 2:4(0,0)");
        does("to r: until time / 9 or signal(60 + time); end", 6, "4:5(0,2)");
    }

    private static void lockNumbers() {
        does("to r: take 0; take 7; note 1; free 7; free 0; note 2; end", 1, "1:1(0,1) 1:1(0,2) 1:4(0,0)");
        does("to r: take 8; end", 1, "1:5(0,2)");
        does("to r: take -1; end", 1, "1:5(0,2)");
        does("to r: take 7; take 7; end", 1, "1:5(0,9)");
        does("to r: free 7; end", 1, "1:5(0,9)");
        does("to r: take 7; free 7; free 7; end", 1, "1:5(0,9)");
        does("to r: take 6; free 7; end", 1, "1:5(0,9)");
        String[] none = {"8", "-1", "-2147483647 - 1", "2147483647"};
        for (String l : none) {
            RobotCellHouse y = house("to r: free " + l + "; end");
            y.start(0, 0);
            y.run(1);
            Due.is("free of a lock that there is not: FAULTED by " + l, y.task(0, 0), 7);
        }
        // A lock that another task holds is none that it holds.
        RobotCellHouse x = house("to r: take 3; wait 9; end to s: free 3; end");
        x.start(0, 0);
        x.start(0, 1);
        x.run(1);
        Due.is("free of another's lock", x.task(1, 2), 9);
        Due.is("it is held still", x.lock(3), 0);
    }

    private static void lockOrder() {
        RobotCellHouse x = house("to r: take 0; wait 5; end to s: wait 3; take 0; wait 1; end to t: wait 1; take 0; wait 1; end "
                + "to u: wait 2; take 0; wait 1; end");
        for (int r = 0; r < 4; r++) x.start(0, r);
        x.run(5);
        Due.is("held by", x.lock(0), 0);
        x.run(1);
        Due.is("the first that waited, not the least", x.lock(0), 2);
        x.run(1);
        Due.is("it ends in a tick more", x.task(2, 0), 6);
        Due.is("the second that waited", x.lock(0), 3);
        Due.is("it had its turn behind that one's", x.task(3, 0), 3);
        x.run(1);
        Due.is("the third that waited", x.lock(0), 1);
        Due.is("its turn was ahead of that", x.task(1, 0), 5);
        x.run(2);
        Due.is("free", x.lock(0), -1);
    }

    /** Task 0 waits longest, and others wait, too. */
    private static void longestIsTaskZero() {
        RobotCellHouse x = house("to w: wait 1; take 2; wait 9; end to h: take 2; wait 4; end to l: wait 2; take 2; wait 9; end");
        for (int r = 0; r < 3; r++) x.start(0, r);
        x.run(4);
        Due.is("both wait", x.task(0, 0) * 10 + x.task(2, 0), 55);
        x.run(1);
        Due.is("the one that waits longest", x.lock(2), 0);
    }

    /** Whoever waits for lock 0 holds it, and so on, when a task ends with several. */
    private static void locksFreedFromZero() {
        for (int fault = 0; fault < 2; fault++) {
            RobotCellHouse x = built("to r: take 7; take 0; take 3; wait 2; " + (fault == 1 ? "raise 1;" : "") + " end");
            x.arm(900, 900, 0, 0);
            Due.program(x, 1, "to s: take 3; wait 9; end to t: take 0; wait 9; end to u: take 7; wait 9; end");
            x.open();
            x.start(0, 0);
            for (int r = 0; r < 3; r++) x.start(1, r);
            x.run(2);
            for (int l : new int[] {0, 3, 7}) Due.is("held by the first", x.lock(l), 0);
            x.run(1);
            Due.is("lock 3", x.lock(3), 1);
            Due.is("lock 0", x.lock(0), 2);
            Due.is("lock 7", x.lock(7), 3);
            Due.is("it waits no more", x.task(2, 0), 3);
        }
    }

    /** A task without turns waits on, and may hold what it waited for; it goes on when it has turns again. */
    private static void lockedWhileFaulted() {
        RobotCellHouse x = built("to r: take 0; note time; end to f: wait 2; raise 1; end");
        x.arm(900, 900, 0, 0);
        Due.program(x, 1, "to s: take 0; wait 4; end");
        x.open();
        x.start(1, 0);
        x.start(0, 0);
        x.start(0, 1);
        x.run(6);
        Due.is("it holds it", x.lock(0), 1);
        Due.is("LOCKED till its first turn", x.task(1, 0), 5);
        x.acknowledge(0);
        x.run(1);
        Due.eventsAre("LOCKED", x, "3:5(2,1) 5:4(0,0) 7:1(1,7) 7:4(1,0)");
    }

    private static void leastTask() {
        RobotCellHouse x = house("to r: wait 9; end to e: end to f: run e; run r; wait 1; run e; end");
        x.start(0, 0);
        x.start(0, 1);
        x.start(0, 2);
        x.run(1);
        Due.is("task 1 has ended, and begins anew", x.task(1, 0), 1);
        Due.is("the next one is NONE before", x.task(3, 0), 1);
        x.run(1);
        Due.is("its own number is none that ended", x.task(2, 0), 6);
        Due.is("READY again", x.task(1, 0), 1);
        Due.is("the least again", x.start(0, 0), 2);
        Due.is("NONE", x.start(0, 0), 4);
    }

    /** What task 0 was is not in the next one of that number. */
    private static void taskZeroAgain() {
        RobotCellHouse x = house("to r: watch 0, w; try: raise 7; catch: end take 1; end to s: wait 1; run t; note 1; end "
                + "to t: note error; set 0, 1; note 2; take 1; end to w: note 9; end");
        x.start(0, 0);
        x.start(0, 1);
        x.run(2);
        Due.is("run begins task 0", x.task(0, 0), 1);
        x.run(1);
        Due.eventsAre("task 0 again", x, "1:4(0,0) 2:1(1,1) 2:4(1,0) 3:1(0,0) 3:1(0,2) 3:4(0,0)");
    }

    /** The last routine of 32, behind call, run and watch, and by start(). */
    private static void thirtyTwoRoutines() {
        StringBuilder text = new StringBuilder("to r0: call r31; run r31; watch 0, r31; set 0, 1; note 0; end ");
        for (int i = 1; i < 32; i++) text.append("to r").append(i).append(": note ").append(i).append("; end ");
        RobotCellHouse x = house(text.toString());
        x.start(0, 0);
        Due.is("start of routine 31", x.start(0, 31), 1);
        Due.is("start of routine 32", x.start(0, 32), BAD);
        x.run(2);
        Due.eventsAre("routine 31", x, "1:1(0,31) 1:1(0,31) 1:1(0,0) 1:4(0,0) 1:1(1,31) 1:4(1,0) 2:1(2,31) 2:4(2,0)");
    }

    private static void sixteenTasks() {
        RobotCellHouse x = house("to r: wait 5; run e; end to e: wait 9; end");
        for (int t = 0; t < 16; t++) Due.is("start " + t, x.start(0, t == 15 ? 0 : 1), t);
        Due.is("start of a 17th", x.start(0, 1), FULL);
        Due.is("a wrong start of a 17th", x.start(0, 2), BAD);
        x.run(6);
        Due.is("run of a 17th", x.task(15, 2), 10);
        Due.is("a FAULTED one is not free", x.start(0, 0), FULL);
        x.acknowledge(0);
        Due.is("one that ended is", x.start(0, 0), 15);
        Due.is("then none", x.start(0, 0), FULL);
    }

    private static void watchEdges() {
        does("to r: watch 63, s; set 63, 1; note 1; end to s: note 2; end", 1, "1:1(0,2) 1:1(0,1) 1:4(0,0)");
        does("to r: watch 64, s; end to s: end", 1, "1:5(0,2)");
        does("to r: watch -2, s; end to s: end", 1, "1:5(0,2)");
        does("to r: watch -1, s; set 0, 1; note 1; end to s: note 2; end", 1, "1:1(0,1) 1:4(0,0)");
        // A watch that is an error leaves the one that was there.
        does("to r: watch 0, s; try: watch 64, r; catch: end set 0, 1; note 1; end to s: note 2; end", 1,
                "1:1(0,2) 1:1(0,1) 1:4(0,0)");
        // A watch in place of another one keeps the rises as they are then.
        does("to r: watch 0, s; set 0, 1; watch 0, s; note 1; end to s: note 2; end", 1, "1:1(0,2) 1:1(0,1) 1:4(0,0)");
        does("to r: watch 0, s; set 1, 1; watch 1, s; note 1; end to s: note 2; end", 1, "1:1(0,1) 1:4(0,0)");
        // Three rises at once are one call; a fall is none.
        does("to r: watch 0, s; call t; note 1; set 0, 0; note 3; end to s: note 2; end to t: set 0, 1; return; end", 1,
                "1:1(0,2) 1:1(0,1) 1:1(0,3) 1:4(0,0)");
        RobotCellHouse x = house("to r: watch 0, s; wait 2; note 1; end to s: note 2; end");
        x.start(0, 0);
        x.run(1);
        for (int i = 0; i < 6; i++) x.set(0, i % 2 == 0 ? 1 : 0);
        x.run(2);
        Due.eventsAre("three rises", x, "3:1(0,2) 3:1(0,1) 3:4(0,0)");
        // Each task has a watch of its own, and a new one has none.
        RobotCellHouse y = house("to r: watch 0, s; wait 1; note 1; end to t: wait 1; note 3; end to s: note 2; end");
        y.start(0, 0);
        y.start(0, 1);
        y.run(1);
        y.set(0, 1);
        y.run(1);
        Due.eventsAre("a watch of its own", y, "2:1(0,2) 2:1(0,1) 2:4(0,0) 2:1(1,3) 2:4(1,0)");
        y.start(0, 1);
        y.run(1);
        y.set(0, 0);
        y.set(0, 1);
        y.run(1);
        Due.is("a new one has none", y.event(5, 3), 3);
    }

    private static void watchedRoutine() {
        // What the watch called waits: the watch is looked at again when it is done.
        RobotCellHouse x = house("to r: watch 0, s; wait 1; note 1; end to s: note 2; wait 2; note 3; end");
        x.start(0, 0);
        x.run(1);
        x.set(0, 1);
        x.run(1);
        Due.is("two routines", x.task(0, 3), 2);
        x.set(0, 0);
        x.set(0, 1);
        x.run(2);
        Due.eventsAre("again when it is done", x, "2:1(0,2) 4:1(0,3) 4:1(0,2)");
        x.run(2);
        Due.eventsAre("then the statement", x, "2:1(0,2) 4:1(0,3) 4:1(0,2) 6:1(0,3) 6:1(0,1) 6:4(0,0)");
        // Left by an error that is caught outside: the watch is looked at again.
        does("var a; to r: watch 0, s; try: set 0, 1; note 1; catch: note 5; set 0, 0; set 0, 1; note 6; end end "
                + "to s: note 2; a = a + 1; if a = 1: raise 4; end end", 1,
                "1:1(0,2) 1:1(0,5) 1:1(0,2) 1:1(0,6) 1:4(0,0)");
        // A watch told in a routine that a watch called counts behind it.
        does("to r: watch 0, s; set 0, 1; note 1; set 1, 1; note 4; end to s: watch 1, t; note 2; end to t: note 3; end", 1,
                "1:1(0,2) 1:1(0,1) 1:1(0,3) 1:1(0,4) 1:4(0,0)");
    }

    /** With twenty open the watch is error 8 ahead of the statement; the rises are kept. */
    private static void watchWhileFull() {
        String deep = "var a, b; to r: a = a + 1; if a < 20: call r; return; end watch 0, s; ";
        RobotCellHouse x = house(deep + "set 0, 1; b = 1; end to s: b = 2; end");
        x.start(0, 0);
        x.run(9);
        Due.is("error 8", x.task(0, 2), 8);
        Due.is("the statement has not begun", x.variable(0, 1), 0);
        RobotCellHouse y = house(deep + "try: set 0, 1; b = 1; catch: b = error; end wait 9; end to s: b = 2; end");
        y.start(0, 0);
        y.run(9);
        Due.is("it is caught, and looked at no more", y.variable(0, 1), 8);
        Due.is("twenty are open", y.task(0, 3), 20);
        RobotCellHouse z = house(deep.replace("20", "19") + "set 0, 1; b = b + 1; wait 9; end to s: b = 5; end");
        z.start(0, 0);
        z.run(9);
        Due.is("with nineteen there is room", z.variable(0, 1), 6);
    }

    private static void gripEdges() {
        RobotCellHouse none = house("to r: grip; end");
        none.start(0, 0);
        none.run(1);
        Due.is("no part at all", none.task(0, 2), 7);
        // A reach of 0 grips what is at the very place.
        RobotCellHouse x = built("to r: grip; wait 5; drop; drop; end");
        x.lay(100, 0, 800);
        x.arm(200, 0, 2048, 800);
        x.joint(1, 0, 0, 0, 100);
        Due.program(x, 1, "to r: grip; end");
        x.open();
        x.start(0, 0);
        x.start(1, 0);
        x.run(1);
        Due.is("the first holds it", x.state(0, 2), 0);
        Due.is("what an arm holds is not gripped", x.task(1, 2), 7);
        Due.is("the second holds none", x.state(1, 2), -1);
        x.run(5);
        Due.is("drop of none", x.task(0, 2), 7);
        Due.is("it lies", x.about(0, 0), 8);
        RobotCellHouse z = built("to r: grip; try: grip; catch: note error; end end");
        z.lay(100, 0, 1);
        z.lay(100, 0, 1);
        z.open();
        z.start(0, 0);
        z.run(1);
        Due.eventsAre("it holds part 0 already", z, "1:6(0,0) 1:1(0,7) 1:4(0,0)");
        RobotCellHouse y = built("to r: grip; end");
        y.lay(100, 1, 800);
        y.open();
        y.start(0, 0);
        y.run(1);
        Due.is("a reach of 0, one eighth away", y.task(0, 2), 7);
    }

    private static void errorNumbers() {
        does("to r: raise 0; end", 1, "1:5(0,0)");
        does("to r: raise -1; end", 1, "1:5(0,-1)");
        does("to r: raise 2147483647; end", 1, "1:5(0,2147483647)");
        does("to r: try: raise 0; catch: note 5; note error; end end", 1, "1:1(0,5) 1:1(0,0) 1:4(0,0)");
        does("to r: note error; try: raise 7; catch: end note error; try: raise 8; catch: end note error; end", 1,
                "1:1(0,0) 1:1(0,7) 1:1(0,8) 1:4(0,0)");
        // Another task has an error of its own.
        RobotCellHouse x = house("to r: try: raise 7; catch: end wait 5; end to s: note error; end");
        x.start(0, 0);
        x.start(0, 1);
        x.run(1);
        Due.eventsAre("error of another task", x, "1:1(1,0) 1:4(1,0)");
    }

    private static void passedTries() {
        does("to r: try: try: try: raise 3; finally: note 1; end end catch: note error; end end", 1,
                "1:1(0,1) 1:1(0,3) 1:4(0,0)");
        does("to r: try: try: raise 3; catch: raise 4; end catch: note error; end end", 1, "1:1(0,4) 1:4(0,0)");
        does("to r: try: try: raise 3; catch: note 1; finally: raise 5; end catch: note error; end end", 1,
                "1:1(0,1) 1:1(0,5) 1:4(0,0)");
        // The error of a routine goes to the try of the one that called it, and all within is left.
        RobotCellHouse x = house("to r: try: call s; catch: wait 9; end end to s: call t; end to t: raise 3; end");
        x.start(0, 0);
        x.run(1);
        Due.is("routines", x.task(0, 3), 1);
        // A try that is over is not under way.
        does("to r: try: catch: note 9; end raise 3; end", 1, "1:5(0,3)");
        does("to r: try: raise 1; catch: end raise 3; end", 1, "1:5(0,3)");
        does("to r: call s; raise 3; end to s: try: return; catch: note 9; end end", 1, "1:5(0,3)");
        does("to r: while 1: try: break; catch: note 9; end end raise 3; end", 1, "1:5(0,3)");
    }

    private static void finallyOnce() {
        does("to r: try: raise 1; catch: raise 2; finally: note 7; end end", 1, "1:1(0,7) 1:5(0,2)");
        does("to r: try: try: raise 1; finally: note 7; end catch: note 8; finally: note 9; end end", 1,
                "1:1(0,7) 1:1(0,8) 1:1(0,9) 1:4(0,0)");
        does("to r: try: return; finally: note 7; end end", 1, "1:1(0,7) 1:4(0,0)");
        does("to r: try: try: return; finally: note 7; end finally: note 8; end end", 1, "1:1(0,7) 1:1(0,8) 1:4(0,0)");
        does("to r: while 1: try: raise 1; catch: break; finally: note 7; end end note 8; end", 1,
                "1:1(0,7) 1:1(0,8) 1:4(0,0)");
        does("to r: try: raise 1; finally: raise 2; note 7; end end", 1, "1:5(0,2)");
        does("to r: try: finally: raise 2; end end", 1, "1:5(0,2)");
        // A finally that has begun is done once, and its own catch is over.
        does("to r: try: note 1; catch: note 9; finally: note 4; raise 2; end end", 1, "1:1(0,1) 1:1(0,4) 1:5(0,2)");
        does("to r: try: raise 1; catch: note 3; finally: note 4; raise 2; end end", 1, "1:1(0,3) 1:1(0,4) 1:5(0,2)");
        does("to r: try: return; catch: note 9; finally: note 4; raise 2; end end", 1, "1:1(0,4) 1:5(0,2)");
    }

    /** A return leaves the tries of its own routine alone, a break those within its while. */
    private static void leftAlone() {
        does("to r: try: call s; note 1; finally: note 2; end note 3; end to s: return; end", 1,
                "1:1(0,1) 1:1(0,2) 1:1(0,3) 1:4(0,0)");
        does("to r: try: call s; note 1; catch: note 9; end end to s: try: return; finally: note 5; end end", 1,
                "1:1(0,5) 1:1(0,1) 1:4(0,0)");
        does("to r: try: call s; note 1; finally: note 2; end end to s: while 1: break; end note 6; end", 1,
                "1:1(0,6) 1:1(0,1) 1:1(0,2) 1:4(0,0)");
        does("to r: try: call s; finally: note 2; end end to s: while 1: try: break; finally: note 5; end end note 6; end", 1,
                "1:1(0,5) 1:1(0,6) 1:1(0,2) 1:4(0,0)");
        does("to r: try: while 1: break; end note 1; finally: note 2; end end", 1, "1:1(0,1) 1:1(0,2) 1:4(0,0)");
        does("to r: try: end while 1: try: break; finally: note 5; end end raise 3; end", 1, "1:1(0,5) 1:5(0,3)");
        does("to r: try: end try: catch: end while 1: try: break; catch: note 9; end end raise 3; end", 1, "1:5(0,3)");
    }

    /** Twenty routines with thirty tries each, all under way: a call too many is caught by one behind the other. */
    private static void sixHundredTries() {
        RobotCellHouse x = house("var b; to r: " + "try: ".repeat(30) + "call r; "
                + "catch: b = b + 1; raise error + 1; end ".repeat(30) + "end");
        x.start(0, 0);
        x.run(30);
        Due.is("all are under way", x.task(0, 3), 20);
        Due.is("none has caught any", x.variable(0, 0), 0);
        // 20 times 31 statements, then two for each catch.
        x.run(61);
        Due.is("each caught one", x.variable(0, 0), 600);
        Due.eventsAre("six hundred tries", x, "91:5(0,608)");
    }

    private static void takesItsPlace() {
        does("to r: call s; note 5; end to s: try: raise 1; finally: return; end end", 1, "1:1(0,5) 1:4(0,0)");
        does("to r: while 1: try: return; finally: break; end end note 5; end", 1, "1:1(0,5) 1:4(0,0)");
        does("to r: while 1: try: break; finally: return; end end note 5; end", 1, "1:4(0,0)");
        does("to r: try: while 1: try: break; finally: raise 4; end end catch: note error; end end", 1, "1:1(0,4) 1:4(0,0)");
        does("to r: try: try: return; finally: raise 4; end catch: note error; end note 5; end", 1,
                "1:1(0,4) 1:1(0,5) 1:4(0,0)");
        // What is left and done within the finally takes no place.
        does("to r: try: raise 1; finally: try: raise 2; catch: note error; end end end", 1, "1:1(0,2) 1:5(0,1)");
        does("to r: try: raise 1; finally: call s; end end to s: return; end", 1, "1:5(0,1)");
        does("to r: try: raise 1; finally: while 1: break; end note 3; end end", 1, "1:1(0,3) 1:5(0,1)");
    }

    private static void faultOfOneArm() {
        RobotCellHouse x = built("to r: wait 1; raise 3; end to s: while 1: note 1; wait 1; end end");
        x.arm(900, 900, 0, 0);
        Due.program(x, 1, "to s: while 1: note 2; wait 1; end end");
        x.open();
        x.start(0, 1);
        x.start(0, 0);
        x.start(0, 1);
        x.start(1, 0);
        x.run(3);
        Due.eventsAre("the tasks of that arm", x, "1:1(0,1) 1:1(2,1) 1:1(3,2) 2:1(0,1) 2:5(1,3) 2:1(3,2) 3:1(3,2)");
        Due.is("the other arm has no FAULTED task", x.state(1, 3), -1);
        Due.is("acknowledge of the other arm", x.acknowledge(1), NO);
        Due.is("acknowledge", x.acknowledge(0), 1);
        Due.is("acknowledge again", x.acknowledge(0), NO);
        x.run(1);
        Due.is("they have turns again", x.events(), 10);
    }

    /** The arm brakes if it goes: not one that brakes already, nor one that stands. */
    private static void faultWhileBraking() {
        RobotCellHouse x = house("to m: move 50; end to f: wait 3; raise 3; end");
        x.reset(0);
        x.start(0, 0);
        x.start(0, 1);
        x.run(3);
        Due.is("it goes", x.state(0, 0), 1);
        x.stop(0);
        x.run(1);
        Due.is("it brakes on", x.state(0, 0), 2);
        Due.eventsAre("a fault while braking", x, "0:3(0,0) 3:9(0,0) 4:5(1,3)");
        RobotCellHouse y = house("to m: move 50; end to f: wait 3; raise 3; end");
        y.reset(0);
        y.start(0, 0);
        y.start(0, 1);
        y.run(4);
        Due.is("it begins to brake", y.state(0, 0), 2);
        Due.eventsAre("a fault while going", y, "0:3(0,0) 4:5(1,3) 4:9(0,0)");
        y.run(9);
        Due.is("it stands, though none of its tasks has turns", y.state(0, 0), 0);
        Due.is("the task waits still", y.task(0, 0), 2);
    }

    private static void errorOfFaulted() {
        RobotCellHouse x = house("to r: raise 3; end to s: wait 5; end");
        x.start(0, 0);
        Due.is("no error yet", x.task(0, 2), 0);
        x.run(1);
        Due.is("its error", x.task(0, 2), 3);
        Due.is("its arm", x.task(0, 1), 0);
        Due.is("no routines", x.task(0, 3), 0);
        x.acknowledge(0);
        Due.is("it has ENDED", x.task(0, 0), 6);
        Due.is("no event of it", x.events(), 1);
        Due.is("a new task in its place", x.start(0, 1), 0);
        Due.is("did not fault", x.task(0, 2), 0);
    }

    /** A move that was broken is error 6 for the task whose own it was, when the arm stands. */
    private static void ownMoveAlone() {
        RobotCellHouse x = house("to r: try: move 50; catch: note error; end end to s: try: wait 1; move 1; catch: note error; end end");
        x.reset(0);
        x.start(0, 0);
        x.start(0, 1);
        x.run(2);
        Due.eventsAre("a second move", x, "0:3(0,0) 2:1(1,4) 2:4(1,0)");
        x.stop(0);
        x.run(1);
        Due.is("it brakes still", x.task(0, 0), 2);
        x.run(3);
        Due.eventsAre("its own move", x, "0:3(0,0) 2:1(1,4) 2:4(1,0) 2:9(0,0) 5:1(0,6) 5:4(0,0)");
        // It is an error once.
        RobotCellHouse y = house("to r: try: move 50; catch: note error; end wait 1; note 1; wait 1; note 2; end");
        y.reset(0);
        y.start(0, 0);
        y.run(1);
        y.stop(-1);
        y.run(3);
        Due.eventsAre("an error once", y, "0:3(0,0) 1:2(4,0) 1:9(0,0) 2:1(0,6) 3:1(0,1) 4:1(0,2) 4:4(0,0)");
    }
}
