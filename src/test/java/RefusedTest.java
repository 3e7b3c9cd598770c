import java.util.function.ToIntFunction;

/** Terms: answers BAD, NO, FULL change nothing; of several the one named first is answered. */
public final class RefusedTest {
    private static final int BAD = RobotCellHouse.BAD, NO = RobotCellHouse.NO, FULL = RobotCellHouse.FULL;
    private static final int MIN = Integer.MIN_VALUE, MAX = Integer.MAX_VALUE;

    public static void main(String[] args) {
        refusedByABuiltCell();
        refusedByAFullCell();
        refusedByAnOpenCell();
        refusedBehindARun();
        fullAheadOfNothing();
        Due.end();
    }

    private interface Call extends ToIntFunction<RobotCellHouse> {
    }

    /** A cell with something of everything, as full as it can be where that is wanted. */
    private static RobotCellHouse cell(boolean full) {
        RobotCellHouse x = new RobotCellHouse();
        x.arm(0, 0, 0, 60);
        x.joint(0, 0, -200, 200, 300);
        x.joint(0, 1, -50, 50, 60);
        x.pace(0, 0, 12, 5);
        x.radius(0, 1, 3);
        x.arm(4000, 0, 1024, 800);
        x.joint(1, 0, -40, 40, 100);
        x.ball(5000, 5000, 10);
        x.spare(0, 1, 0);
        x.belt(300, -200, 1, 900, 80);
        x.drive(0, 3);
        x.sensor(0, 4, 100, 260);
        x.part(0, 200, 5);
        x.lay(360, 0, 2);
        x.zone(1, 3000, 3000, 10, 10);
        x.most(0, 5);
        x.input(1);
        x.person(1, true);
        x.wire(4, 5, true);
        Due.program(x, 0, "var a,b;to m:grip;move 150,20;drop;while 1:a=a+1;wait 2;end end to s:raise 4;end");
        Due.program(x, 1, "to m:while 1:move 40;move -40;end end");
        Due.tape(x, "to tape: end");
        if (full) fill(x);
        return x;
    }

    private static void fill(RobotCellHouse x) {
        for (int a = 2; a < 4; a++) x.arm(-5000, 2000 * a, 0, 0);
        for (int j = 1; j < 6; j++) x.joint(1, 0, 0, 0, 0);
        for (int s = 1; s < 16; s++) x.ball(9000, 9000, s);
        for (int b = 1; b < 4; b++) x.belt(9000, -9000, b, 5, 5);
        for (int p = 2; p < 32; p++) x.lay(-9000, -9000, p);
        for (int z = 1; z < 8; z++) x.zone(0, 9000, 0, z, z);
        for (int i = 1; i < 8; i++) x.input(i);
    }

    private static void ask(StringBuilder all, int answer) {
        all.append(answer).append(' ');
    }

    /** All that can be asked and may have changed. */
    private static String all(RobotCellHouse x) {
        StringBuilder all = new StringBuilder();
        for (int what = 0; what <= 8; what++) ask(all, x.count(what));
        ask(all, x.time());
        for (int a = 0; a < 2; a++) {
            for (int what = 0; what < 8; what++) ask(all, x.state(a, what));
            for (int j = 0; j < 2; j++) ask(all, x.value(a, j));
            for (int k = 0; k < 3; k++) ask(all, x.point(a, k, 0) * 20000 + x.point(a, k, 1));
            ask(all, x.touches(a, 100));
            ask(all, x.step(a, 0));
        }
        for (int t = 0; t < 3; t++) {
            for (int what = 0; what < 4; what++) ask(all, x.task(t, what));
        }
        for (int k = 0; k < 2; k++) ask(all, x.variable(0, k));
        for (int p = 3; p < 6; p++) {
            for (int what = 0; what < 3; what++) ask(all, x.signal(p, what));
        }
        ask(all, x.lock(0));
        for (int p = 0; p < 2; p++) {
            for (int what = 0; what < 4; what++) ask(all, x.about(p, what));
        }
        for (int what = 0; what < 5; what++) ask(all, x.safety(what));
        ask(all, x.events());
        for (int what = 0; what < 4; what++) ask(all, x.event(x.events() - 1, what));
        ask(all, x.fault(0));
        return all.toString();
    }

    /** What the cell does when it is opened and used. */
    private static String later(RobotCellHouse x) {
        x.open();
        x.reset(1);
        x.start(0, 0);
        x.start(1, 0);
        x.run(40);
        return all(x);
    }

    private static void refused(String what, RobotCellHouse x, RobotCellHouse twin, int due, Call call) {
        Due.is(what, call.applyAsInt(x), due);
        Due.is(what + " changes nothing", all(x).equals(all(twin)) ? 1 : 0, 1);
        Due.is(what + " changes nothing that comes", later(x).equals(later(twin)) ? 1 : 0, 1);
    }

    private static void refusedByABuiltCell() {
        Call[] bad = {x -> x.cut(-1), x -> x.cut(13), x -> x.arm(MIN, 0, 0, 0), x -> x.joint(0, 2, 0, 0, 1),
            x -> x.joint(0, 1, -2, 5, 1), x -> x.joint(0, 0, 0, 0, 7591), x -> x.pace(0, 0, 1, 2001),
            x -> x.pace(0, 0, 2001, 1), x -> x.pace(1, 1, 1, 1), x -> x.radius(0, 1, 801), x -> x.radius(0, 2, 8),
            x -> x.ball(0, 0, -1), x -> x.box(0, 0, 0, -1), x -> x.spare(0, 7, 0), x -> x.spare(0, 0, 1),
            x -> x.belt(0, 0, 0, 1, 2001), x -> x.drive(0, 101), x -> x.drive(1, 5), x -> x.sensor(0, 64, 0, 900),
            x -> x.sensor(0, 3, 5, 4), x -> x.sensor(0, 3, -1, 4), x -> x.sensor(1, 3, 0, 4), x -> x.part(0, 901, 1),
            x -> x.part(0, 5, 801), x -> x.lay(0, 0, 801), x -> x.zone(0, 0, 0, 0, -1), x -> x.zone(2, 0, 0, 0, 0),
            x -> x.most(0, 32001), x -> x.most(1, 0), x -> x.input(1001), x -> x.person(8, true), x -> x.wire(64, 3, true),
            x -> x.wire(3, 64, true), x -> x.program(2), x -> x.program(-1), x -> x.fault(2)};
        for (int i = 0; i < bad.length; i++) refused("BAD call " + i + " of a built cell", cell(false), cell(false), BAD, bad[i]);
        Call[] no = {x -> x.wire(3, 5, false), x -> x.wire(5, 4, false), x -> x.wire(3, 3, true), x -> x.start(0, 0),
            x -> x.run(5), x -> x.set(3, 7), x -> x.force(3, 7, true), x -> x.channel(0, false, true), x -> x.reset(1),
            x -> x.stop(0), x -> x.stop(-1), x -> x.acknowledge(0), x -> x.hand(0, 0, 5), x -> x.aim(0, 5),
            x -> x.plan(0, 16, 0), x -> x.travel(0), x -> x.back(0)};
        for (int i = 0; i < no.length; i++) refused("NO call " + i + " of a built cell", cell(false), cell(false), NO, no[i]);
    }

    private static void refusedByAFullCell() {
        Call[] full = {x -> x.arm(0, 0, 0, 0), x -> x.joint(1, 0, 0, 0, 0), x -> x.ball(0, 0, 0), x -> x.box(0, 0, 0, 0),
            x -> x.belt(0, 0, 0, 5, 5), x -> x.part(0, 0, 0), x -> x.lay(0, 0, 0), x -> x.zone(0, 0, 0, 5, 5),
            x -> x.input(0)};
        Call[] bad = {x -> x.arm(0, 0, 4096, 0), x -> x.joint(1, 0, 0, 0, 8000), x -> x.ball(0, 0, 8001), x -> x.box(0, 0, -1, 0),
            x -> x.belt(0, 0, 0, 5, -5), x -> x.part(0, 0, -1), x -> x.lay(0, 0, -1), x -> x.zone(4, 0, 0, 5, 5),
            x -> x.input(-1)};
        for (int i = 0; i < full.length; i++) {
            refused("FULL call " + i, cell(true), cell(true), FULL, full[i]);
            Due.is("BAD ahead of FULL, call " + i, bad[i].applyAsInt(cell(true)), BAD);
            RobotCellHouse open = cell(true);
            open.open();
            Due.is("NO ahead of FULL, call " + i, full[i].applyAsInt(open), NO);
            Due.is("BAD ahead of NO, call " + i, bad[i].applyAsInt(open), BAD);
        }
    }

    private static RobotCellHouse opened() {
        RobotCellHouse x = cell(false);
        x.open();
        return x;
    }

    private static void refusedByAnOpenCell() {
        Call[] no = {x -> x.arm(0, 0, 0, 0), x -> x.joint(0, 0, 0, 0, 0), x -> x.pace(0, 0, 1, 1), x -> x.radius(0, 0, 100),
            x -> x.ball(360, 0, 800), x -> x.box(0, 0, 9, 9), x -> x.spare(0, 0, 0), x -> x.belt(0, 0, 0, 9, 9),
            x -> x.drive(0, 100), x -> x.sensor(0, 3, 0, 900), x -> x.part(0, 0, 0), x -> x.lay(0, 0, 0),
            x -> x.zone(0, 0, 0, 900, 900), x -> x.most(0, -1), x -> x.input(0), x -> x.person(1, false),
            x -> x.person(0, true), x -> x.wire(4, 3, true), x -> x.program(0), x -> x.fault(0), x -> x.open(),
            x -> x.reset(0), x -> x.stop(-1), x -> x.acknowledge(0), x -> x.travel(0)};
        for (int i = 0; i < no.length; i++) refused("NO call " + i + " of an open cell", opened(), opened(), NO, no[i]);
        Call[] bad = {x -> x.pace(0, 0, 0, 1), x -> x.radius(2, 0, 0), x -> x.ball(0, 0, 8001), x -> x.box(0, 0, MAX, 0),
            x -> x.spare(0, 7, 0), x -> x.belt(0, 0, 4, 0, 0), x -> x.drive(-1, 0), x -> x.sensor(0, -1, 0, 0),
            x -> x.part(1, 0, 0), x -> x.lay(16001, 0, 0), x -> x.zone(-1, 0, 0, 0, 0), x -> x.most(0, -2),
            x -> x.input(-1), x -> x.person(-1, true), x -> x.wire(-1, 0, true), x -> x.program(2), x -> x.start(0, 2),
            x -> x.start(-1, 0), x -> x.run(0), x -> x.run(1001), x -> x.set(64, 1), x -> x.force(-1, 1, true),
            x -> x.channel(1, true, true), x -> x.reset(8), x -> x.stop(2), x -> x.acknowledge(-1), x -> x.hand(0, 2, 0),
            x -> x.hand(0, 0, 201), x -> x.hand(0, 0, -201), x -> x.aim(6, 1), x -> x.plan(0, 17, 0), x -> x.plan(0, 1, 2001),
            x -> x.travel(2), x -> x.back(1), x -> x.back(-1)};
        for (int i = 0; i < bad.length; i++) refused("BAD call " + i + " of an open cell", opened(), opened(), BAD, bad[i]);
    }

    /** With power, an arm on its way, a way, a FAULTED task, and rows in the book. */
    private static RobotCellHouse running() {
        RobotCellHouse x = opened();
        x.aim(0, 16);
        x.plan(1, 16, 0);
        x.channel(0, true, false);
        x.run(3);
        x.channel(0, true, true);
        x.reset(1);
        x.start(1, 0);
        x.start(0, 1);
        x.run(4);
        return x;
    }

    private static void refusedBehindARun() {
        Call[] no = {x -> x.reset(1), x -> x.hand(0, 0, 5), x -> x.plan(1, 16, 0), x -> x.travel(1), x -> x.travel(0),
            x -> x.acknowledge(1), x -> x.open(), x -> x.arm(0, 0, 0, 0)};
        for (int i = 0; i < no.length; i++) refused("NO call " + i + " behind a run", running(), running(), NO, no[i]);
        Call[] bad = {x -> x.back(10), x -> x.back(MIN), x -> x.back(MAX), x -> x.run(MAX), x -> x.stop(-2), x -> x.step(1, 1)};
        for (int i = 0; i < bad.length; i++) refused("BAD call " + i + " behind a run", running(), running(), BAD, bad[i]);
        RobotCellHouse well = opened();
        RobotCellHouse twin = opened();
        for (RobotCellHouse x : new RobotCellHouse[] {well, twin}) {
            x.channel(0, true, false);
            x.run(3);
        }
        refused("reset of a faulty input with one channel", well, twin, NO, x -> x.reset(1));
    }

    private static void fullAheadOfNothing() {
        RobotCellHouse x = opened();
        RobotCellHouse twin = opened();
        for (RobotCellHouse h : new RobotCellHouse[] {x, twin}) {
            for (int t = 0; t < 16; t++) h.start(t % 2, 0);
        }
        refused("start of the 17th task", x, twin, FULL, h -> h.start(0, 1));
        RobotCellHouse y = opened();
        RobotCellHouse other = opened();
        for (RobotCellHouse h : new RobotCellHouse[] {y, other}) {
            for (int i = 0; i < 6; i++) h.run(1000);
        }
        refused("run of tick 6001", y, other, FULL, h -> h.run(1));
        RobotCellHouse z = opened();
        refused("plan with 401 nodes by 101", z, opened(), FULL, h -> h.plan(0, 1, 0));
        RobotCellHouse tape = cell(false);
        RobotCellHouse same = cell(false);
        for (RobotCellHouse h : new RobotCellHouse[] {tape, same}) {
            for (int i = 0; i < 199; i++) h.feed(i, i, i, i, i);
        }
        refused("feed behind 3992 bytes", tape, same, FULL, h -> h.feed(1, 2, 3, 4, 5));
    }
}
