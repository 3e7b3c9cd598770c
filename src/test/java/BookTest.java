/** Promises 26, 37, 38, 52, 53 and term 10: the book, ticks, and the cell as it was. */
public final class BookTest {
    private static final int BAD = RobotCellHouse.BAD, NO = RobotCellHouse.NO, FULL = RobotCellHouse.FULL;

    public static void main(String[] args) {
        runs();
        rows();
        backToEachRow();
        whatStays();
        twoThousandRows();
        Due.end();
    }

    private static void runs() {
        RobotCellHouse x = new RobotCellHouse();
        x.open();
        Due.is("run(0)", x.run(0), BAD);
        Due.is("run(1001)", x.run(1001), BAD);
        Due.is("run(-1)", x.run(-1), BAD);
        for (int i = 0; i < 5; i++) Due.is("run(1000)", x.run(1000), 1000);
        Due.is("run(999)", x.run(999), 999);
        Due.is("as many as are left", x.run(1000), 1);
        Due.is("none is left", x.run(1), FULL);
        Due.is("time", x.time(), 6000);
        Due.is("rows", x.count(6), 7);
        Due.is("back(6)", x.back(6), 5999);
        Due.is("one is left", x.run(2), 1);
        Due.is("build", x.build(), 6000);
    }

    private static RobotCellHouse cell() {
        RobotCellHouse x = new RobotCellHouse();
        x.person(0, true);
        x.input(1);
        x.arm(0, 0, 0, 60);
        x.joint(0, 0, -200, 200, 300);
        x.joint(0, 1, -50, 50, 60);
        x.pace(0, 0, 12, 5);
        x.arm(4000, 0, 0, 0);
        x.joint(1, 0, -40, 40, 100);
        x.belt(300, -200, 1, 900, 80);
        x.drive(0, 3);
        x.sensor(0, 4, 100, 260);
        x.part(0, 200, 5);
        x.part(0, 90, 5);
        x.lay(360, 0, 2);
        x.wire(4, 5, true);
        x.zone(1, 4000, 50, 100, 100);
        Due.program(x, 0, "var a, b; to main: watch 4, seen; try: grip; move 150, 20; drop; catch: note error; finally: b = b + 1; end "
                + "while 1: a = a + 1; take 1; wait 2; free 1; end end to seen: note a; run other; end "
                + "to other: take 1; wait 7; set 9, a; end to bad: move 500, 500; end");
        Due.program(x, 1, "to main: while 1: move 40; move -40; end end");
        x.open();
        return x;
    }

    /** Each call of the run that is looked at, by its number: the answer of the call. */
    private static int act(RobotCellHouse x, int i) {
        switch (i) {
            case 0: return x.reset(0);
            case 1: return x.start(0, 0);
            case 2: return x.start(1, 0);
            case 3: return x.run(9);
            case 4: return x.set(4, 0);
            case 5: return x.run(20);
            case 6: return x.force(4, 1, true);
            case 7: return x.run(5);
            case 8: return x.stop(1);
            case 9: return x.start(0, 3);
            case 10: return x.run(3);
            case 11: return x.force(4, 0, false);
            case 12: return x.acknowledge(0);
            case 13: return x.channel(0, true, false);
            case 14: return x.run(4);
            case 15: return x.channel(0, true, true);
            case 16: return x.hand(1, 0, 7);
            case 17: return x.aim(0, 27);
            case 18: return x.plan(1, 10, 3);
            case 19: return x.reset(0);
            case 20: return x.acknowledge(1);
            case 21: return x.travel(1);
            case 22: return x.run(2);
            case 23: return x.stop(-1);
            default: return x.run(30);
        }
    }

    private static final int ACTS = 25;

    /** All that can be asked of the cell, as one number that any change would change. */
    private static long all(RobotCellHouse x) {
        long sum = x.time();
        for (int a = 0; a < 2; a++) {
            for (int what = 0; what < 8; what++) sum = sum * 31 + x.state(a, what);
            for (int j = 0; j < 2; j++) sum = sum * 31 + x.value(a, j);
            sum = sum * 31 + x.point(a, 1, 1);
            for (int k = 0; k < 4; k++) sum = sum * 31 + x.step(a, k);
        }
        for (int t = 0; t < 4; t++) {
            for (int what = 0; what < 4; what++) sum = sum * 31 + x.task(t, what);
        }
        for (int k = 0; k < 2; k++) sum = sum * 31 + x.variable(0, k);
        int[] asked = {4, 5, 9};
        for (int p : asked) {
            for (int what = 0; what < 3; what++) sum = sum * 31 + x.signal(p, what);
        }
        sum = sum * 31 + x.lock(1);
        for (int p = 0; p < 3; p++) {
            for (int what = 0; what < 4; what++) sum = sum * 31 + x.about(p, what);
        }
        for (int what = 0; what < 5; what++) sum = sum * 31 + x.safety(what);
        sum = sum * 31 + x.events();
        for (int what = 0; what < 4; what++) sum = sum * 31 + x.event(x.events() - 1, what);
        return sum * 31 + x.count(6);
    }

    private static void rows() {
        RobotCellHouse x = cell();
        Due.is("back(1) of no rows", x.back(1), BAD);
        Due.is("back(-1)", x.back(-1), BAD);
        Due.is("back(0) of no rows", x.back(0), 0);
        for (int i = 0; i < ACTS; i++) {
            Due.is("act " + i + " is carried out", act(x, i) >= 0 ? 1 : 0, 1);
            Due.is("rows behind act " + i, x.count(6), i + 1);
        }
        int time = x.time();
        Due.is("a call that is BAD has no row", x.run(0) + x.count(6), BAD + ACTS);
        Due.is("a call that is NO has no row", x.stop(-1) + x.count(6), NO + ACTS);
        Due.is("a question has no row", x.touches(0, 0) * 0 + x.count(6), ACTS);
        Due.is("back to all rows", x.back(ACTS), time);
        Due.is("back(0)", x.back(0), 0);
        Due.is("no rows", x.count(6), 0);
        Due.is("back(1)", x.back(1), BAD);
        Due.is("the cell is open", x.count(8), 1);
        x.build();
        Due.is("back(0) of a cell that is not open", x.back(0), NO);
    }

    private static void backToEachRow() {
        for (int n = 0; n <= ACTS; n++) {
            RobotCellHouse first = cell();
            for (int i = 0; i < n; i++) act(first, i);
            long due = all(first);
            RobotCellHouse x = cell();
            for (int i = 0; i < ACTS; i++) act(x, i);
            long end = all(x);
            Due.is("back(" + n + ")", x.back(n), first.time());
            Due.is("all behind back(" + n + ")", all(x) == due ? 1 : 0, 1);
            for (int i = n; i < ACTS; i++) act(x, i);
            Due.is("all behind the rest from row " + n, all(x) == end ? 1 : 0, 1);
            for (int what = 0; what < 4; what++) Due.is("never(" + what + ")", x.never(what), 0);
        }
    }

    /** More calls than the 512 that are promised: no others can fill the book, so they are held to the document, too. */
    private static void twoThousandRows() {
        RobotCellHouse x = cell();
        for (int i = 1; i < 2000; i++) x.set(9, i);
        Due.is("the last row", x.set(9, 2000), 1999);
        Due.is("rows", x.count(6), 2000);
        int[] full = {x.start(0, 0), x.run(1), x.set(9, 7), x.force(9, 7, true), x.channel(0, false, false), x.reset(0), x.stop(0),
            x.hand(0, 0, 5), x.aim(0, 5), x.plan(1, 1, 0)};
        for (int i = 0; i < full.length; i++) Due.is("call " + i + " of a full book", full[i], FULL);
        int[] bad = {x.start(0, 9), x.run(0), x.set(64, 7), x.hand(0, 0, 201), x.aim(6, 0), x.back(2001)};
        for (int i = 0; i < bad.length; i++) Due.is("BAD is asked ahead of it, call " + i, bad[i], BAD);
        int[] no = {x.reset(1), x.stop(-1), x.acknowledge(0), x.travel(1)};
        for (int i = 0; i < no.length; i++) Due.is("NO is asked ahead of it, call " + i, no[i], NO);
        Due.is("nothing has changed", x.signal(9, 0), 2000);
        Due.is("no task", x.task(0, 0), 0);
        Due.is("no tick", x.time(), 0);
        Due.is("no way", x.state(1, 5), -1);
        Due.is("all rows", x.back(2000), 0);
        Due.is("one less", x.back(1999), 0);
        Due.is("there is room for one", x.set(9, 7), 1999);
        Due.is("and for no more", x.set(9, 8), FULL);
    }

    private static void whatStays() {
        RobotCellHouse x = cell();
        x.feed(1, 2, 3, 4, 5);
        x.run(5);
        x.back(0);
        Due.is("the tape", x.count(7), 20);
        Due.is("aims are 0 again", x.aim(0, 9) + x.back(0) + x.plan(1, 1, 0), 0);
        x.build();
        Due.is("the latest fault", x.fault(0), 0);
    }
}
