/** Promises 34 to 36, 39, 42, 53 and term 9: plans, ways and travels. */
public final class WaysTest {
    private static final int BAD = RobotCellHouse.BAD, NO = RobotCellHouse.NO, FULL = RobotCellHouse.FULL;

    public static void main(String[] args) {
        wrongInputs();
        straight();
        around();
        wholeValues();
        firstNode();
        nodes();
        sixtyPlans();
        fresh();
        travels();
        broken();
        betweenMoves();
        noSteps();
        Due.end();
    }

    private static RobotCellHouse turns(int low, int high) {
        RobotCellHouse x = new RobotCellHouse();
        x.person(0, true);
        x.arm(0, 0, 0, 50);
        x.joint(0, 0, low, high, 100);
        x.joint(0, 0, low, high, 100);
        return x;
    }

    private static String way(RobotCellHouse x, int arm) {
        StringBuilder text = new StringBuilder();
        for (int k = 0; k < x.state(arm, 5); k++) text.append(text.length() > 0 ? " " : "").append(x.step(arm, k));
        return text.toString();
    }

    private static void wayIs(String what, RobotCellHouse x, int arm, String due) {
        Due.is(what + ": " + way(x, arm) + " for " + due, way(x, arm).equals(due) ? 1 : 0, 1);
    }

    private static void wrongInputs() {
        RobotCellHouse x = turns(-10, 10);
        x.open();
        Due.is("aim(-1)", x.aim(-1, 0), BAD);
        Due.is("aim(6)", x.aim(6, 0), BAD);
        Due.is("aim(5)", x.aim(5, Integer.MIN_VALUE), 0);
        Due.is("plan of arm 1", x.plan(1, 1, 0), BAD);
        Due.is("plan of arm -1", x.plan(-1, 1, 0), BAD);
        Due.is("plan with 0", x.plan(0, 0, 0), BAD);
        Due.is("plan with 17", x.plan(0, 17, 0), BAD);
        Due.is("plan with margin -1", x.plan(0, 1, -1), BAD);
        Due.is("plan with margin 2001", x.plan(0, 1, 2001), BAD);
        Due.is("travel of arm 1", x.travel(1), BAD);
        Due.is("travel without a way", x.travel(0), NO);
        Due.is("state(0, 5) without a way", x.state(0, 5), -1);
        Due.is("state(0, 6) without a way", x.state(0, 6), 0);
        Due.is("step without a way", x.step(0, 0), BAD);
        x.aim(0, 11);
        Due.is("an aim that is no value", x.plan(0, 1, 0), NO);
        x.aim(0, -11);
        Due.is("an aim that is no value, below", x.plan(0, 1, 0), NO);
        x.aim(0, 5);
        Due.is("an aim that is no node", x.plan(0, 2, 0), NO);
        x.aim(0, Integer.MIN_VALUE);
        Due.is("an aim far away", x.plan(0, 2, 0), NO);
        x.aim(0, 4);
        x.aim(1, -2);
        Due.is("a way", x.plan(0, 2, 0), 3);
        Due.is("step(0, 3)", x.step(0, 3), BAD);
        Due.is("step(0, -1)", x.step(0, -1), BAD);
        Due.is("step(1, 0)", x.step(1, 0), BAD);
        x.aim(0, 3);
        Due.is("no node", x.plan(0, 2, 0), NO);
        Due.is("the arm has the way it had", x.state(0, 5), 3);
        Due.is("rows", x.count(6), 9);
    }

    private static void straight() {
        RobotCellHouse x = turns(-30, 30);
        x.open();
        x.aim(0, -10);
        x.aim(1, 15);
        Due.is("steps", x.plan(0, 5, 0), 5);
        wayIs("joint 0 down comes ahead of joint 1 up", x, 0, "1 1 2 2 2");
        x.aim(0, 10);
        Due.is("steps", x.plan(0, 5, 0), 5);
        wayIs("joint 0 up", x, 0, "0 0 2 2 2");
        x.aim(0, 0);
        x.aim(1, 0);
        Due.is("no steps", x.plan(0, 5, 0), 0);
        Due.is("state(0, 5)", x.state(0, 5), 0);
        Due.is("state(0, 6)", x.state(0, 6), 1);
    }

    /** A ball at the end of the arm, half way: it draws in ahead of it and out behind it. */
    private static void around() {
        RobotCellHouse x = new RobotCellHouse();
        x.arm(0, 0, 0, 0);
        x.joint(0, 0, 0, 64, 0);
        x.joint(0, 1, 0, 48, 1000);
        x.ball(1047, 51, 4);
        x.open();
        x.hand(0, 1, 48);
        x.aim(0, 64);
        x.aim(1, 48);
        Due.is("steps", x.plan(0, 16, 0), 6);
        wayIs("in by 16", x, 0, "0 3 0 0 0 2");
        Due.is("with a margin", x.plan(0, 16, 20), 8);
        wayIs("in by 32", x, 0, "0 3 3 0 0 0 2 2");
        Due.is("no way", x.plan(0, 16, 60), NO);
        Due.is("the way it had", x.state(0, 5), 8);
    }

    /** The nodes are free, but a value between them is not. */
    private static void wholeValues() {
        RobotCellHouse x = new RobotCellHouse();
        x.arm(0, 0, 0, 0);
        x.joint(0, 1, 0, 32, 100);
        x.joint(0, 0, 0, 0, 0);
        x.radius(0, 0, 0);
        x.arm(108, 50, 3072, 0);
        x.joint(1, 0, -1024, 1024, 45);
        x.open();
        x.aim(0, 32);
        Due.is("a way below the other arm", x.plan(0, 16, 4), 2);
        Due.is("too near at its end", x.plan(0, 16, 5), NO);
        RobotCellHouse y = new RobotCellHouse();
        y.arm(0, 0, 0, 0);
        y.joint(0, 0, 0, 16, 1000);
        y.ball(1000, 12, 2);
        y.open();
        y.aim(0, 16);
        Due.is("the first node is free", y.touches(0, 0), 0);
        Due.is("a ball between two nodes", y.plan(0, 16, 0), NO);
        y.hand(0, 0, 16);
        Due.is("the last node is free", y.touches(0, 0), 0);
        y.aim(0, 0);
        Due.is("nor downwards", y.plan(0, 16, 0), NO);
    }

    private static void firstNode() {
        RobotCellHouse x = turns(-10, 10);
        x.ball(200, 0, 3);
        x.open();
        Due.is("a first node that is not free, no steps", x.plan(0, 1, 0), NO);
        x.aim(0, 10);
        Due.is("a first node that is not free", x.plan(0, 1, 0), NO);
    }

    private static void nodes() {
        RobotCellHouse x = new RobotCellHouse();
        x.arm(0, 0, 0, 0);
        x.joint(0, 0, 0, 999, 10);
        x.open();
        x.aim(0, 999);
        Due.is("1000 nodes", x.plan(0, 1, 0), 999);
        Due.is("its last step", x.step(0, 998), 0);
        RobotCellHouse y = new RobotCellHouse();
        y.arm(0, 0, 0, 0);
        y.joint(0, 0, -1, 999, 10);
        y.open();
        y.aim(0, 5000);
        Due.is("1001 nodes, asked ahead of the aims", y.plan(0, 1, 0), FULL);
        Due.is("501 nodes", y.plan(0, 2, 0), NO);
        RobotCellHouse z = new RobotCellHouse();
        z.arm(0, 0, 0, 0);
        for (int j = 0; j < 6; j++) z.joint(0, 0, -100000, 100000, 10);
        z.open();
        Due.is("far too many nodes", z.plan(0, 16, 0), FULL);
        RobotCellHouse w = new RobotCellHouse();
        w.arm(0, 0, 0, 0);
        for (int j = 0; j < 3; j++) w.joint(0, 0, -4, 5, 10);
        w.open();
        Due.is("ten by ten by ten", w.plan(0, 1, 0), 0);
        w.hand(0, 0, 5);
        w.aim(0, 1);
        Due.is("counted from its values on", w.plan(0, 2, 0), 2);
        wayIs("down", w, 0, "1 1");
    }

    private static void sixtyPlans() {
        RobotCellHouse x = new RobotCellHouse();
        x.arm(0, 0, 0, 0);
        x.joint(0, 0, 0, 999, 10);
        x.arm(5000, 0, 0, 0);
        x.joint(1, 0, -1, 999, 10);
        x.open();
        for (int i = 0; i < 30; i++) Due.is("plan " + i, x.plan(0, 1, 0), 0);
        Due.is("what is FULL is none of the 60", x.plan(1, 1, 0), FULL);
        x.back(0);
        x.aim(0, 1000);
        for (int i = 30; i < 60; i++) Due.is("plan " + i, x.plan(0, 1, 0), NO);
        Due.is("plan 60", x.plan(0, 1, 0), FULL);
        x.back(0);
        Due.is("whatever back() did", x.plan(0, 1, 0), FULL);
        x.build();
        x.arm(0, 0, 0, 0);
        x.open();
        Due.is("behind build()", x.plan(0, 1, 0), 0);
    }

    private static RobotCellHouse two(String text) {
        RobotCellHouse x = new RobotCellHouse();
        x.person(0, true);
        for (int a = 0; a < 2; a++) {
            x.arm(5000 * a, 0, 0, 50);
            x.joint(a, 0, -100, 100, 100);
            x.pace(a, 0, 10, 10);
            Due.program(x, a, text);
        }
        x.lay(100, 0, 1);
        x.open();
        x.aim(0, 20);
        x.plan(0, 10, 0);
        Due.is("a fresh way", x.state(0, 6), 1);
        return x;
    }

    private static void fresh() {
        RobotCellHouse x = two("to r: end");
        x.hand(0, 0, 0);
        Due.is("a hand that changes nothing", x.state(0, 6), 1);
        x.run(5);
        x.set(0, 1);
        Due.is("ticks that move nothing", x.state(0, 6), 1);
        x.hand(1, 0, 1);
        Due.is("a joint of another arm", x.state(0, 6), 0);
        x.hand(1, 0, 0);
        Due.is("also when it is back", x.state(0, 6), 0);
        x.reset(0);
        Due.is("travel", x.travel(0), NO);
        Due.is("another plan", x.plan(0, 10, 0), 2);
        Due.is("is fresh", x.state(0, 6), 1);
        RobotCellHouse y = two("to r: grip; end to s: move 1; end");
        y.hand(0, 0, 1);
        Due.is("its own joint", y.state(0, 6), 0);
        RobotCellHouse z = two("to r: grip; end");
        z.start(0, 0);
        z.run(1);
        Due.is("a part that is gripped", z.state(0, 6), 0);
        z.plan(0, 10, 0);
        Due.is("holding it", z.state(0, 6), 1);
        RobotCellHouse w = two("to r: grip; wait 2; drop; end");
        w.start(0, 0);
        w.run(1);
        w.plan(0, 10, 0);
        w.run(1);
        Due.is("held", w.state(0, 6), 1);
        w.run(1);
        Due.is("a part that is dropped", w.state(0, 6), 0);
        RobotCellHouse v = two("to r: move 0; end to s: move 1; end");
        v.reset(0);
        v.start(1, 0);
        v.run(3);
        Due.is("a move to where it is", v.state(0, 6), 1);
        v.start(1, 1);
        v.run(1);
        Due.is("a move of another arm", v.state(0, 6), 0);
    }

    private static void travels() {
        RobotCellHouse x = turns(-30, 30);
        x.pace(0, 0, 10, 5);
        x.pace(0, 1, 10, 10);
        Due.program(x, 0, "to r: move 0, 0; end to s: raise 5; end");
        x.open();
        x.aim(0, -10);
        x.aim(1, 15);
        x.plan(0, 5, 0);
        Due.is("travel without power", x.travel(0), NO);
        x.reset(0);
        x.start(0, 1);
        x.run(1);
        Due.is("one of its tasks is FAULTED", x.travel(0), NO);
        x.acknowledge(0);
        Due.is("travel", x.travel(0), 2);
        Due.is("it goes", x.state(0, 0), 1);
        Due.is("it travels", x.state(0, 7), 1);
        Due.is("travel again", x.travel(0), NO);
        Due.is("plan of an arm that goes", x.plan(0, 5, 0), NO);
        int[][] due = {{-5, 0}, {-10, 0}, {-10, 0}, {-10, 10}, {-10, 15}, {-10, 15}};
        for (int i = 0; i < due.length; i++) {
            Due.is("it goes", x.state(0, 0), 1);
            x.run(1);
            Due.is("joint 0", x.value(0, 0), due[i][0]);
            Due.is("joint 1", x.value(0, 1), due[i][1]);
        }
        Due.is("it stands", x.state(0, 0), 0);
        Due.is("it travels no more", x.state(0, 7), 0);
        Due.is("its way is not fresh", x.state(0, 6), 0);
        Due.is("it has its way", x.state(0, 5), 5);
        Due.eventsAre("a travel", x, "0:3(0,0) 1:5(0,5) 4:8(0,3) 7:8(0,3)");
        for (int what = 0; what < 4; what++) Due.is("never(" + what + ")", x.never(what), 0);
    }

    private static void broken() {
        RobotCellHouse x = turns(-30, 30);
        x.pace(0, 0, 4, 2);
        Due.program(x, 0, "to r: try: move 1, 1; catch: note error; end end");
        x.open();
        x.reset(0);
        x.aim(0, 30);
        x.aim(1, 10);
        Due.is("plan", x.plan(0, 10, 0), 4);
        Due.is("travel", x.travel(0), 2);
        x.start(0, 0);
        x.run(2);
        Due.is("it goes", x.value(0, 0), 6);
        Due.is("stop", x.stop(0), 1);
        Due.is("it travels no more", x.state(0, 7), 0);
        x.run(4);
        Due.is("it stands where it came to rest", x.value(0, 0), 8);
        Due.is("the rest of the way is not done", x.value(0, 1), 0);
        Due.eventsAre("a broken travel", x, "0:3(0,0) 1:1(0,4) 1:4(0,0) 2:9(0,0)");
    }

    /** Between two moves of a travel the arm goes: what stops it breaks the next one. */
    private static void betweenMoves() {
        RobotCellHouse x = turns(-30, 30);
        x.pace(0, 0, 10, 10);
        x.open();
        x.reset(0);
        x.aim(0, 10);
        x.aim(1, 10);
        x.plan(0, 10, 0);
        Due.is("travel", x.travel(0), 2);
        x.run(2);
        Due.is("the first move has ended", x.events(), 2);
        Due.is("it goes", x.state(0, 0), 1);
        Due.is("stop", x.stop(0), 1);
        x.run(1);
        Due.is("it stands", x.state(0, 0), 0);
        Due.eventsAre("between moves", x, "0:3(0,0) 2:8(0,2) 2:9(0,0)");
        RobotCellHouse y = turns(-30, 30);
        y.open();
        y.reset(0);
        y.aim(0, 10);
        y.plan(0, 10, 0);
        y.travel(0);
        Due.is("stop ahead of the first tick", y.stop(0), 1);
        y.run(1);
        Due.is("it stands again", y.state(0, 0), 0);
        Due.is("where it was", y.value(0, 0), 0);
    }

    private static void noSteps() {
        RobotCellHouse x = turns(-30, 30);
        x.open();
        Due.is("plan", x.plan(0, 7, 0), 0);
        Due.is("travel without power", x.travel(0), NO);
        x.reset(0);
        Due.is("travel", x.travel(0), 0);
        Due.is("it stands on", x.state(0, 0), 0);
        Due.is("it does not travel", x.state(0, 7), 0);
        x.run(2);
        Due.is("nothing happens", x.events(), 1);
        Due.is("rows", x.count(6), 4);
        RobotCellHouse y = new RobotCellHouse();
        y.arm(0, 0, 0, 0);
        y.open();
        Due.is("an arm without joints has one node", y.plan(0, 16, 2000), 0);
    }
}
