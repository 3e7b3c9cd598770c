/** Promises 21, 27, 28, 45 and term 3: points, wires, forces and rises. */
public final class SignalsTest {
    private static final int BAD = RobotCellHouse.BAD;

    public static void main(String[] args) {
        ownNumbers();
        forces();
        wires();
        rises();
        Due.end();
    }

    private static void ownNumbers() {
        RobotCellHouse x = new RobotCellHouse();
        x.open();
        Due.is("set", x.set(0, -1), 0);
        Due.is("an old number that is BAD", x.set(0, -3), -1);
        Due.is("an old number that is FULL", x.set(0, 5), -3);
        Due.is("set(64)", x.set(64, 0), BAD);
        Due.is("set(-1)", x.set(-1, 0), BAD);
        Due.is("value", x.signal(0, 0), 5);
        Due.is("own", x.signal(0, 1), 5);
        Due.is("rises", x.signal(0, 2), 1);
        Due.is("signal(0, 3)", x.signal(0, 3), BAD);
        Due.is("signal(0, -1)", x.signal(0, -1), BAD);
        Due.is("signal(64, 0)", x.signal(64, 0), BAD);
        Due.is("signal(-1, 0)", x.signal(-1, 0), BAD);
        Due.is("rows", x.count(6), 3);
    }

    private static void forces() {
        RobotCellHouse x = new RobotCellHouse();
        x.open();
        Due.is("force", x.force(9, 0, true), 0);
        Due.is("set of a forced one", x.set(9, 4), 0);
        Due.is("its value", x.signal(9, 0), 0);
        Due.is("its own number", x.signal(9, 1), 4);
        Due.is("no rise", x.signal(9, 2), 0);
        Due.is("force again", x.force(9, 7, true), 1);
        Due.is("its value then", x.signal(9, 0), 7);
        Due.is("a rise by force", x.signal(9, 2), 1);
        Due.is("no more", x.force(9, 0, false), 1);
        Due.is("its own number is its value", x.signal(9, 0), 4);
        Due.is("no rise from 7 to 4", x.signal(9, 2), 1);
        Due.is("no more again", x.force(9, 0, false), 0);
        x.force(9, 0, true);
        x.force(9, 0, false);
        Due.is("a rise when it is forced no more", x.signal(9, 2), 2);
        x.force(0, 3, true);
        x.back(0);
        Due.is("no force at open()", x.signal(0, 0), 0);
        Due.is("force(64)", x.force(64, 0, true), BAD);
        Due.is("force(-1)", x.force(-1, 0, true), BAD);
    }

    private static void wires() {
        RobotCellHouse x = new RobotCellHouse();
        // Told against the order in which values go along them.
        x.wire(2, 3, true);
        x.wire(1, 2, false);
        x.wire(0, 1, true);
        x.wire(0, 4, false);
        Due.is("1 of a cell that is not open", x.signal(1, 0), 1);
        Due.is("2 of a cell that is not open", x.signal(2, 0), 1);
        Due.is("3 of a cell that is not open", x.signal(3, 0), 0);
        x.open();
        x.set(0, -9);
        Due.is("0", x.signal(0, 0), -9);
        Due.is("1 is turned", x.signal(1, 0), 0);
        Due.is("2 is as 1", x.signal(2, 0), 0);
        Due.is("3 is turned again", x.signal(3, 0), 1);
        Due.is("4 is as 0", x.signal(4, 0), -9);
        x.set(1, 8);
        Due.is("the own number of a wired one", x.signal(1, 1), 8);
        Due.is("is not its value", x.signal(1, 0), 0);
        x.force(1, 5, true);
        Due.is("a force in the middle", x.signal(2, 0), 5);
        Due.is("and behind it", x.signal(3, 0), 0);
        Due.is("not ahead of it", x.signal(0, 0), -9);
        x.force(1, 0, false);
        Due.is("the wire counts again", x.signal(2, 0), 0);
    }

    private static void rises() {
        RobotCellHouse x = new RobotCellHouse();
        x.wire(0, 1, true);
        x.wire(1, 2, false);
        x.arm(0, 0, 0, 0);
        Due.program(x, 0, "to r: set 0, 1; set 0, 2; set 0, 0; set 0, 3; end");
        x.open();
        Due.is("no rise by open()", x.signal(1, 2), 0);
        x.start(0, 0);
        x.run(1);
        Due.is("rises of 0", x.signal(0, 2), 2);
        Due.is("rises of 1", x.signal(1, 2), 1);
        Due.is("rises of 2", x.signal(2, 2), 1);
        x.set(0, 0);
        Due.is("rises of 1 then", x.signal(1, 2), 2);
        x.set(0, 0);
        Due.is("a number that stays is no rise", x.signal(1, 2), 2);
        x.force(2, 0, true);
        x.force(2, -1, true);
        Due.is("rises of 2 by force", x.signal(2, 2), 3);
        x.back(0);
        Due.is("rises at open()", x.signal(2, 2), 0);
    }
}
