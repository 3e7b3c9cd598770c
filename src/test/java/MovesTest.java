/** Promises 7, 25, 26, 31, 33, 40, 53 and term 2: moves tick by tick, brakes, and hands. */
public final class MovesTest {
    private static final int BAD = RobotCellHouse.BAD, NO = RobotCellHouse.NO;

    public static void main(String[] args) {
        fewestTicks();
        twoJoints();
        alreadyThere();
        brakes();
        stopEdges();
        brokenMoveOfAnother();
        hands();
        Due.end();
    }

    private static RobotCellHouse house(int speed, int gain, String text) {
        RobotCellHouse x = new RobotCellHouse();
        x.arm(0, 0, 0, 0);
        x.joint(0, 0, -1000, 1000, 100);
        x.pace(0, 0, speed, gain);
        x.person(0, true);
        Due.program(x, 0, text);
        x.open();
        x.reset(0);
        return x;
    }

    /** By trying all rows of steps: in how few one comes from 0 to far. */
    private static int fewest(int far, int speed, int gain) {
        boolean[][] at = new boolean[far + 1][speed + 1];
        at[0][0] = true;
        for (int n = 0; n < 1000; n++) {
            for (int d = 0; d <= Math.min(speed, gain); d++) if (at[far][d]) return n;
            boolean[][] next = new boolean[far + 1][speed + 1];
            for (int p = 0; p <= far; p++) {
                for (int s = 0; s <= speed; s++) {
                    if (!at[p][s]) continue;
                    for (int d = Math.max(0, s - gain); d <= Math.min(speed, s + gain) && p + d <= far; d++) next[p + d][d] = true;
                }
            }
            at = next;
        }
        return -1;
    }

    private static void fewestTicks() {
        int[][] paces = {{1, 1}, {5, 1}, {7, 3}, {20, 20}, {9, 2000}, {30, 4}};
        for (int[] p : paces) {
            for (int far = 0; far <= 60; far += 3) {
                RobotCellHouse x = house(p[0], p[1], "to a: move -" + far + "; end");
                x.start(0, 0);
                int ticks = 0;
                int before = 0;
                int step = 0;
                do {
                    x.run(1);
                    ticks++;
                    int now = before - x.value(0, 0);
                    before = x.value(0, 0);
                    Due.is("a step from 0 to SPEED", now >= 0 && now <= p[0] ? 1 : 0, 1);
                    Due.is("steps that differ by GAIN", Math.abs(now - step) <= p[1] ? 1 : 0, 1);
                    step = now;
                } while (x.state(0, 0) == 1 && ticks < 300);
                Due.is("where it ends", x.value(0, 0), -far);
                Due.is("ticks for " + far + " with " + p[0] + ", " + p[1], ticks, fewest(far, p[0], p[1]) + 1);
                Due.is("ticks in the event", x.event(1, 3), ticks);
                Due.is("never(1)", x.never(1), 0);
            }
        }
    }

    private static void twoJoints() {
        RobotCellHouse x = new RobotCellHouse();
        x.arm(0, 0, 0, 0);
        x.joint(0, 0, 0, 100, 100);
        x.joint(0, 1, -100, 0, 100);
        x.pace(0, 0, 10, 10);
        x.pace(0, 1, 4, 2);
        x.person(0, true);
        Due.program(x, 0, "to a: move 25, -13; note joint(0); note joint(1); end");
        x.open();
        x.reset(0);
        x.start(0, 0);
        int[][] due = {{10, -2}, {20, -6}, {25, -10}, {25, -12}, {25, -13}, {25, -13}};
        for (int[] d : due) {
            Due.is("run", x.run(1), 1);
            Due.is("joint 0", x.value(0, 0), d[0]);
            Due.is("joint 1", x.value(0, 1), d[1]);
        }
        Due.is("the arm stands", x.state(0, 0), 0);
        x.run(1);
        Due.eventsAre("two joints", x, "0:3(0,0) 6:8(0,6) 7:1(0,25) 7:1(0,-13) 7:4(0,0)");
        Due.is("never(0)", x.never(0), 0);
        Due.is("never(4)", x.never(4), BAD);
        Due.is("never(-1)", x.never(-1), BAD);
    }

    private static void alreadyThere() {
        RobotCellHouse x = house(10, 10, "to a: move 0; move 0; end");
        x.start(0, 0);
        x.run(3);
        Due.eventsAre("moves to where it is", x, "0:3(0,0) 1:8(0,1) 2:8(0,1) 3:4(0,0)");
    }

    private static void brakes() {
        RobotCellHouse x = house(30, 7, "to a: try: move 1000; catch: note error; end end");
        x.start(0, 0);
        x.run(4);
        Due.is("7 + 14 + 21 + 28", x.value(0, 0), 70);
        Due.is("stop of an arm that goes", x.stop(0), 1);
        Due.is("it brakes", x.state(0, 0), 2);
        Due.is("stop of an arm that brakes", x.stop(0), 2);
        int[] due = {91, 105, 112, 112};
        for (int i = 0; i < due.length; i++) {
            x.run(1);
            Due.is("braking", x.value(0, 0), due[i]);
            Due.is("its state", x.state(0, 0), i < 3 ? 2 : 0);
            Due.is("the task waits", x.task(0, 0), 2);
        }
        Due.is("stop of an arm that stands", x.stop(0), 0);
        x.run(1);
        Due.eventsAre("brakes", x, "0:3(0,0) 4:9(0,0) 9:1(0,6) 9:4(0,0)");
    }

    private static void stopEdges() {
        RobotCellHouse x = house(30, 7, "to a: move 1000; end");
        Due.is("stop(1)", x.stop(1), BAD);
        Due.is("stop(-2)", x.stop(-2), BAD);
        x.start(0, 0);
        x.run(2);
        Due.is("stop(-1)", x.stop(-1), 0);
        Due.is("it stands at once", x.state(0, 0), 0);
        Due.is("where it was", x.value(0, 0), 21);
        Due.is("stop(-1) without power", x.stop(-1), NO);
        Due.is("stop(0) without power", x.stop(0), 0);
        x.run(1);
        Due.eventsAre("stop(-1)", x, "0:3(0,0) 2:2(4,0) 2:9(0,0) 3:5(0,6)");
    }

    /** A task whose own move ended goes on without an error, though another one's move was broken. */
    private static void brokenMoveOfAnother() {
        RobotCellHouse x = house(10, 10, "to a: wait 1; move 10; note 1; end to b: until joint(0) = 10; until 0; end "
                + "to c: until joint(0) = 10; wait 1; move 500; end");
        x.start(0, 2);
        x.start(0, 0);
        x.run(4);
        Due.is("the first has not seen its arm stand", x.task(1, 0), 2);
        Due.is("the second moves it", x.task(0, 0), 2);
        x.run(3);
        x.stop(0);
        x.run(5);
        Due.eventsAre("two tasks", x, "0:3(0,0) 3:8(0,2) 7:9(0,0) 9:5(0,6)");
        x.acknowledge(0);
        x.run(1);
        Due.eventsAre("two tasks then", x, "0:3(0,0) 3:8(0,2) 7:9(0,0) 9:5(0,6) 13:1(1,1) 13:4(1,0)");
    }

    private static void hands() {
        RobotCellHouse x = house(10, 10, "");
        Due.is("hand with power", x.hand(0, 0, 5), NO);
        x.stop(-1);
        Due.is("hand", x.hand(0, 0, -1), 0);
        Due.is("an old value that is BAD", x.hand(0, 0, 1000), -1);
        Due.is("hand beyond HIGH", x.hand(0, 0, 1001), BAD);
        Due.is("hand beyond LOW", x.hand(0, 0, -1001), BAD);
        Due.is("hand of joint 1", x.hand(0, 1, 0), BAD);
        Due.is("hand of joint -1", x.hand(0, -1, 0), BAD);
        Due.is("hand of arm 1", x.hand(1, 0, 0), BAD);
        Due.is("value", x.value(0, 0), 1000);
        Due.is("rows", x.count(6), 4);
    }
}
