import java.util.function.IntUnaryOperator;

/**
 * Promises 3 to 53: each number that a call takes, at the least and the greatest that it may be, one
 * beyond these, and as far beyond as there is. Every call is made in a cell of its own.
 */
public final class RangesTest {
    private static final int BAD = RobotCellHouse.BAD;
    private static final int MIN = Integer.MIN_VALUE, MAX = Integer.MAX_VALUE;

    public static void main(String[] args) {
        armsAndJoints();
        lengthsOfJoints();
        solids();
        belts();
        endsOfBelts();
        partsAndZones();
        otherBuilding();
        openCells();
        handsAndWays();
        questionsOfArms();
        otherQuestions();
        Due.end();
    }

    private static void range(String what, int low, int high, IntUnaryOperator call) {
        taken(what, low, call);
        taken(what, high, call);
        if (low > MIN) refused(what, low - 1, call);
        if (low > MIN) refused(what, MIN, call);
        if (high < MAX) refused(what, high + 1, call);
        if (high < MAX) refused(what, MAX, call);
    }

    private static void taken(String what, int v, IntUnaryOperator call) {
        Due.is(what + " of " + v + " is taken", call.applyAsInt(v) >= 0 ? 1 : 0, 1);
    }

    private static void refused(String what, int v, IntUnaryOperator call) {
        Due.is(what + " of " + v, call.applyAsInt(v), BAD);
    }

    /** Two arms: one of a turn and a slide, one of a turn; and two of everything else. */
    private static RobotCellHouse built() {
        RobotCellHouse x = new RobotCellHouse();
        x.arm(0, 0, 0, 60);
        x.joint(0, 0, -200, 200, 300);
        x.joint(0, 1, -50, 50, 60);
        x.arm(4000, 0, 0, 0);
        x.joint(1, 0, -40, 40, 100);
        for (int i = 0; i < 2; i++) {
            x.ball(9000, 9000, 1);
            x.belt(300, -200, 1, 900, 80);
            x.lay(360, 0, 2);
            x.zone(0, 9000, 9000, 1, 1);
            x.input(0);
        }
        for (int p = 0; p < 8; p++) x.person(p, true);
        Due.program(x, 0, "var a,b;to r:grip;take 0;take 1;take 2;take 3;take 4;take 5;take 6;take 7;wait 9;end to s:raise 1;end");
        Due.program(x, 1, "to s:raise 1;end");
        return x;
    }

    private static RobotCellHouse open() {
        RobotCellHouse x = built();
        x.open();
        return x;
    }

    private static RobotCellHouse empty() {
        return new RobotCellHouse();
    }

    private static void armsAndJoints() {
        range("arm: x", -8000, 8000, v -> empty().arm(v, 0, 0, 0));
        range("arm: y", -8000, 8000, v -> empty().arm(0, v, 0, 0));
        range("arm: direction", 0, 4095, v -> empty().arm(0, 0, v, 0));
        range("arm: reach", 0, 800, v -> empty().arm(0, 0, 0, v));
        range("joint: arm", 0, 1, v -> built().joint(v, 0, 0, 0, 0));
        range("joint: kind", 0, 1, v -> built().joint(0, v, 0, 0, 0));
        range("joint: low of a turn", -100000, 0, v -> built().joint(0, 0, v, 0, 0));
        range("joint: high of a turn", 0, 100000, v -> built().joint(0, 0, 0, v, 0));
        range("pace: arm", 0, 1, v -> built().pace(v, 0, 1, 1));
        range("pace: joint", 0, 1, v -> built().pace(0, v, 1, 1));
        range("pace: speed", 1, 2000, v -> built().pace(0, 0, v, 1));
        range("pace: gain", 1, 2000, v -> built().pace(0, 0, 1, v));
        range("radius: arm", 0, 1, v -> built().radius(v, 0, 1));
        range("radius: joint", 0, 1, v -> built().radius(0, v, 1));
        range("radius: r", 0, 800, v -> built().radius(0, 0, v));
    }

    private static int jointOfNewArm(int kind, int low, int high, int length) {
        RobotCellHouse x = new RobotCellHouse();
        x.arm(0, 0, 0, 0);
        return x.joint(0, kind, low, high, length);
    }

    private static int jointBehindOthers(int kind, int high, int length) {
        RobotCellHouse x = new RobotCellHouse();
        x.arm(0, 0, 0, 0);
        x.joint(0, 0, -100, 100, 3000);
        x.joint(0, 1, -1000, 500, 1000);
        return x.joint(0, kind, 0, high, length);
    }

    private static void lengthsOfJoints() {
        range("joint: low of a slide", -8000, 0, v -> jointOfNewArm(1, v, 0, 8000));
        range("joint: high of a slide", 0, 8000, v -> jointOfNewArm(1, 0, v, 0));
        range("joint: length of a turn", 0, 8000, v -> jointOfNewArm(0, 0, 0, v));
        range("joint: length of a slide, with its low", 5, 8000, v -> jointOfNewArm(1, -5, 0, v));
        range("joint: length of a slide, with its high", 0, 7995, v -> jointOfNewArm(1, 0, 5, v));
        range("joint: low of a slide, with its length", -7, 0, v -> jointOfNewArm(1, v, 0, 7));
        range("joint: lengths and highs of slides together", 0, 3500, v -> jointBehindOthers(0, 100, v));
        range("joint: with the high of this slide", 0, 3000, v -> jointBehindOthers(1, 500, v));
        range("joint: this high with the lengths", 0, 3400, v -> jointBehindOthers(1, v, 100));
    }

    private static void solids() {
        range("ball: x", -16000, 16000, v -> empty().ball(v, 0, 0));
        range("ball: y", -16000, 16000, v -> empty().ball(0, v, 0));
        range("ball: r", 0, 8000, v -> empty().ball(0, 0, v));
        range("box: x", -16000, 16000, v -> empty().box(v, 0, 0, 0));
        range("box: y", -16000, 16000, v -> empty().box(0, v, 0, 0));
        range("box: w", 0, 15900, v -> empty().box(100, 0, v, 0));
        range("box: h", 0, 15900, v -> empty().box(0, 100, 0, v));
        range("box: w from the very left", 0, 32000, v -> empty().box(-16000, 0, v, 0));
        range("box: h from the very bottom", 0, 32000, v -> empty().box(0, -16000, 0, v));
        range("box: x with its w", -16000, 15000, v -> empty().box(v, 0, 1000, 0));
        range("box: y with its h", -16000, 15000, v -> empty().box(0, v, 0, 1000));
        range("spare: arm", 0, 1, v -> built().spare(v, 0, 0));
        range("spare: body", 0, 6, v -> built().spare(0, v, 0));
        range("spare: solid", 0, 1, v -> built().spare(0, 0, v));
    }

    private static void belts() {
        range("belt: x", -16000, 16000, v -> empty().belt(v, 0, 0, 0, 0));
        range("belt: y", -16000, 16000, v -> empty().belt(0, v, 0, 0, 0));
        range("belt: quarter", 0, 3, v -> empty().belt(0, 0, v, 0, 0));
        range("belt: length", 0, 16000, v -> empty().belt(-16000, 0, 0, v, 0));
        range("belt: width", 0, 2000, v -> empty().belt(0, 0, 0, 0, v));
        range("drive: belt", 0, 1, v -> built().drive(v, 1));
        range("drive: speed", 0, 100, v -> built().drive(0, v));
        range("sensor: belt", 0, 1, v -> built().sensor(v, 0, 0, 0));
        range("sensor: point", 0, 63, v -> built().sensor(0, v, 0, 0));
        range("sensor: from", 0, 50, v -> built().sensor(0, 0, v, 50));
        range("sensor: to", 50, MAX, v -> built().sensor(0, 0, 50, v));
    }

    private static void endsOfBelts() {
        range("belt: its end along x", 0, 1000, v -> empty().belt(15000, 0, 0, v, 0));
        range("belt: its end along y", 0, 1000, v -> empty().belt(0, 15000, 1, v, 0));
        range("belt: its end against x", 0, 1000, v -> empty().belt(-15000, 0, 2, v, 0));
        range("belt: its end against y", 0, 1000, v -> empty().belt(0, -15000, 3, v, 0));
        range("belt: from the one end of x", 0, 16000, v -> empty().belt(16000, 0, 2, v, 0));
        range("belt: from the one end of y", 0, 16000, v -> empty().belt(0, 16000, 3, v, 0));
    }

    private static void partsAndZones() {
        range("part: belt", 0, 1, v -> built().part(v, 0, 0));
        range("part: s", 0, 900, v -> built().part(0, v, 0));
        range("part: r", 0, 800, v -> built().part(0, 0, v));
        range("lay: x", -16000, 16000, v -> empty().lay(v, 0, 0));
        range("lay: y", -16000, 16000, v -> empty().lay(0, v, 0));
        range("lay: r", 0, 800, v -> empty().lay(0, 0, v));
        range("zone: arm", 0, 1, v -> built().zone(v, 0, 0, 0, 0));
        range("zone: x", -16000, 16000, v -> built().zone(0, v, 0, 0, 0));
        range("zone: y", -16000, 16000, v -> built().zone(0, 0, v, 0, 0));
        range("zone: w", 0, 15900, v -> built().zone(0, 100, 0, v, 0));
        range("zone: h", 0, 15900, v -> built().zone(0, 0, 100, 0, v));
        range("zone: w from the very left", 0, 32000, v -> built().zone(0, -16000, 0, v, 0));
        range("zone: h from the very bottom", 0, 32000, v -> built().zone(0, 0, -16000, 0, v));
        range("most: zone", 0, 1, v -> mostOf(v, 7));
        range("most: most", -1, 32000, v -> mostOf(0, v));
    }

    /** What it was would be -1, which is BAD, too: it becomes 5 first. */
    private static int mostOf(int zone, int most) {
        RobotCellHouse x = built();
        x.most(0, 5);
        x.most(1, 5);
        return x.most(zone, most);
    }

    private static void otherBuilding() {
        range("cut", 0, 20, v -> cutOfTwenty(v));
        range("input: differ", 0, 1000, v -> empty().input(v));
        range("person", 0, 7, v -> empty().person(v, true));
        range("wire: from", 0, 63, v -> empty().wire(v, 30, false));
        range("wire: to", 0, 63, v -> empty().wire(30, v, false));
        range("program: arm", 0, 1, v -> built().program(v));
        Due.is("fault(0)", built().fault(0), 0);
        Due.is("fault(1) without a fault", built().fault(1), -1);
        range("fault: what", 0, 1, v -> faultOfWrongText(v));
        Due.is("fault(0) before any program", empty().fault(0), BAD);
        Due.is("fault(1) before any program", empty().fault(1), BAD);
    }

    private static int cutOfTwenty(int n) {
        RobotCellHouse x = empty();
        x.feed(0, 0, 0, 0, 0);
        return x.cut(n);
    }

    private static int faultOfWrongText(int what) {
        RobotCellHouse x = built();
        Due.program(x, 0, "to to");
        return x.fault(what);
    }

    private static void openCells() {
        range("start: arm", 0, 1, v -> open().start(v, 0));
        range("start: routine", 0, 1, v -> open().start(0, v));
        range("run", 1, 1000, v -> open().run(v));
        range("set: point", 0, 63, v -> open().set(v, 1));
        range("force: point", 0, 63, v -> open().force(v, 1, true));
        range("channel: input", 0, 1, v -> open().channel(v, false, true));
        range("reset: person", 0, 7, v -> open().reset(v));
        range("stop: arm", -1, 1, v -> stopWithPower(v));
        range("acknowledge: arm", 0, 1, v -> faulted().acknowledge(v));
        range("back", 0, 3, v -> backOfThree(v));
    }

    private static int stopWithPower(int arm) {
        RobotCellHouse x = open();
        x.reset(0);
        return x.stop(arm);
    }

    /** A task of each arm is FAULTED; arm 0 holds a part, and task 0 all locks. */
    private static RobotCellHouse faulted() {
        RobotCellHouse x = open();
        x.reset(0);
        x.plan(0, 16, 0);
        x.start(0, 0);
        x.start(0, 1);
        x.start(1, 0);
        x.run(1);
        return x;
    }

    private static int backOfThree(int n) {
        RobotCellHouse x = open();
        x.run(1);
        x.set(0, 1);
        x.run(1);
        return x.back(n);
    }

    private static void handsAndWays() {
        range("hand: arm", 0, 1, v -> open().hand(v, 0, 1));
        range("hand: joint", 0, 1, v -> open().hand(0, v, 1));
        range("hand: v of a turn", -200, 200, v -> open().hand(0, 0, v));
        range("hand: v of a slide", -50, 50, v -> open().hand(0, 1, v));
        range("aim: j", 0, 5, v -> open().aim(v, 0));
        range("aim: v", MIN, MAX, v -> open().aim(0, v));
        range("plan: arm", 0, 1, v -> open().plan(v, 16, 0));
        range("plan: wide", 1, 16, v -> open().plan(1, v, 0));
        range("plan: margin", 0, 2000, v -> planFarAway(v));
        range("travel: arm", 0, 1, v -> travelOf(v));
    }

    private static int planFarAway(int margin) {
        RobotCellHouse x = new RobotCellHouse();
        x.arm(-8000, -8000, 0, 0);
        x.joint(0, 0, 0, 10, 10);
        x.open();
        return x.plan(0, 1, margin);
    }

    private static int travelOf(int arm) {
        RobotCellHouse x = open();
        x.reset(0);
        x.plan(0, 16, 0);
        x.plan(1, 16, 0);
        return x.travel(arm);
    }

    private static void questionsOfArms() {
        range("state: arm", 0, 1, v -> faulted().state(v, 0));
        range("state: what", 0, 7, v -> faulted().state(0, v));
        range("value: arm", 0, 1, v -> faulted().value(v, 0));
        range("value: joint", 0, 1, v -> faulted().value(0, v));
        range("point: arm", 0, 1, v -> faulted().point(v, 0, 0));
        range("point: k", 0, 2, v -> faulted().point(0, v, 0));
        range("point: axis", 0, 1, v -> faulted().point(0, 0, v));
        range("step: arm", 0, 1, v -> withWays().step(v, 0));
        range("step: k", 0, 2, v -> withWays().step(0, v));
        range("variable: arm", 0, 0, v -> faulted().variable(v, 0));
        range("variable: k", 0, 1, v -> faulted().variable(0, v));
        range("touches: arm", 0, 1, v -> faulted().touches(v, 0));
        range("touches: margin", 0, 2000, v -> faulted().touches(0, v));
    }

    private static RobotCellHouse withWays() {
        RobotCellHouse x = open();
        x.aim(0, 16);
        x.plan(1, 16, 0);
        x.aim(0, -32);
        x.aim(1, 16);
        x.plan(0, 16, 0);
        return x;
    }

    private static void otherQuestions() {
        range("task: t", 0, 15, v -> faulted().task(v, 0));
        range("task: what", 0, 3, v -> faulted().task(0, v));
        range("signal: point", 0, 63, v -> faulted().signal(v, 0));
        range("signal: what", 0, 2, v -> faulted().signal(0, v));
        range("lock", 0, 7, v -> faulted().lock(v));
        range("about: part", 0, 1, v -> faulted().about(v, 0));
        range("about: what", 0, 3, v -> faulted().about(0, v));
        range("safety, with two inputs", 0, 5, v -> faulted().safety(v));
        range("safety, without an input", 0, 3, v -> empty().safety(v));
        range("event: i", 0, 3, v -> faulted().event(v, 0));
        range("event: what", 0, 3, v -> faulted().event(1, v));
        range("count", 0, 8, v -> faulted().count(v));
        range("never", 0, 3, v -> faulted().never(v));
    }
}
