/** Promises 41, 51 and term 1: points, bodies, and what touches what. */
public final class PlacesTest {
    private static final int BAD = RobotCellHouse.BAD;

    public static void main(String[] args) {
        allAngles();
        longArm();
        slides();
        questions();
        linesAndBalls();
        boxes();
        ownBodies();
        otherArms();
        exactly();
        Due.end();
    }

    private static long nearest(double v) {
        return (long) Math.floor(1048576 * v + 0.5);
    }

    private static int rounded(long v) {
        return (int) Math.floorDiv(v + 524288, 1048576);
    }

    private static void allAngles() {
        for (int block = 0; block < 4096; block += 64) {
            RobotCellHouse x = new RobotCellHouse();
            for (int d = block; d < block + 64; d += 4) {
                x.build();
                for (int a = 0; a < 4; a++) {
                    x.arm(3, -5, d + a, 0);
                    x.joint(a, 0, 0, 0, 7999);
                    double angle = Math.PI * (d + a) / 2048;
                    Due.is("x at " + (d + a), x.point(a, 1, 0), rounded(3 * 1048576L + 7999 * nearest(Math.cos(angle))));
                    Due.is("y at " + (d + a), x.point(a, 1, 1), rounded(-5 * 1048576L + 7999 * nearest(Math.sin(angle))));
                }
            }
        }
    }

    /** Sums are exact: six joints of an arm are rounded once, not joint by joint. */
    private static void longArm() {
        RobotCellHouse x = new RobotCellHouse();
        x.arm(100, 200, 4000, 0);
        int[] values = {700, -100000, 33, 99999, -1, 2048};
        for (int j = 0; j < 6; j++) x.joint(0, 0, -100000, 100000, 1 + j);
        x.open();
        long sumX = 100 * 1048576L;
        long sumY = 200 * 1048576L;
        int angle = 4000;
        for (int j = 0; j < 6; j++) {
            x.hand(0, j, values[j]);
            angle += values[j];
            double turn = Math.PI * Math.floorMod(angle, 4096) / 2048;
            sumX += (1 + j) * nearest(Math.cos(turn));
            sumY += (1 + j) * nearest(Math.sin(turn));
            Due.is("x of point " + (j + 1), x.point(0, j + 1, 0), rounded(sumX));
            Due.is("y of point " + (j + 1), x.point(0, j + 1, 1), rounded(sumY));
        }
    }

    private static void slides() {
        RobotCellHouse x = new RobotCellHouse();
        x.arm(0, 0, 1024, 0);
        x.joint(0, 1, -50, 70, 50);
        x.joint(0, 0, -2048, 2048, 100);
        x.joint(0, 1, -10, 10, 20);
        x.open();
        x.hand(0, 0, -50);
        Due.is("a slide drawn in", x.point(0, 1, 1), 0);
        x.hand(0, 0, 70);
        Due.is("a slide drawn out", x.point(0, 1, 1), 120);
        Due.is("its x", x.point(0, 1, 0), 0);
        x.hand(0, 1, 1024);
        Due.is("a turn behind it", x.point(0, 2, 0), -100);
        x.hand(0, 2, -10);
        Due.is("a slide behind the turn", x.point(0, 3, 0), -110);
        Due.is("its y", x.point(0, 3, 1), 120);
    }

    private static void questions() {
        RobotCellHouse x = new RobotCellHouse();
        x.arm(0, 0, 2048, 0);
        Due.is("point 0 of no joints", x.point(0, 0, 0), 0);
        Due.is("point 1 of no joints", x.point(0, 1, 0), BAD);
        x.joint(0, 0, 0, 0, 1);
        Due.is("a coordinate that is BAD", x.point(0, 1, 0), -1);
        Due.is("point 2", x.point(0, 2, 0), BAD);
        Due.is("point -1", x.point(0, -1, 0), BAD);
        Due.is("axis 2", x.point(0, 0, 2), BAD);
        Due.is("axis -1", x.point(0, 0, -1), BAD);
        Due.is("arm 1", x.point(1, 0, 0), BAD);
        Due.is("touches of arm 1", x.touches(1, 0), BAD);
        Due.is("touches with -1", x.touches(0, -1), BAD);
        Due.is("touches with 2001", x.touches(0, 2001), BAD);
        Due.is("touches with 2000", x.touches(0, 2000), 0);
    }

    /** An arm from (0, 0) to (100, 0) of a radius, with a ball. */
    private static int ball(int radius, int x, int y, int r, int margin) {
        RobotCellHouse house = new RobotCellHouse();
        house.arm(0, 0, 0, 0);
        house.joint(0, 0, 0, 0, 100);
        house.radius(0, 0, radius);
        house.ball(x, y, r);
        return house.touches(0, margin);
    }

    private static void linesAndBalls() {
        Due.is("above the middle", ball(0, 50, 10, 10, 0), 1);
        Due.is("above the middle, one off", ball(0, 50, 11, 10, 0), 0);
        Due.is("the radius counts", ball(1, 50, 11, 10, 0), 1);
        Due.is("the margin counts", ball(0, 50, 11, 10, 1), 1);
        Due.is("behind the end", ball(0, 103, 4, 5, 0), 1);
        Due.is("behind the end, one off", ball(0, 103, 4, 4, 0), 0);
        Due.is("ahead of the base", ball(0, -3, -4, 5, 0), 1);
        Due.is("ahead of the base, one off", ball(0, -3, -4, 4, 0), 0);
        Due.is("on the line", ball(0, 100, 0, 0, 0), 1);
        Due.is("far away", ball(0, 16000, 16000, 8000, 2000), 0);
        Due.is("a great ball", ball(800, 8900, 0, 8000, 0), 1);
    }

    private static int box(int direction, int x, int y, int w, int h, int margin) {
        RobotCellHouse house = new RobotCellHouse();
        house.arm(0, 0, direction, 0);
        house.joint(0, 0, 0, 0, 100);
        house.box(x, y, w, h);
        return house.touches(0, margin);
    }

    private static void boxes() {
        Due.is("the line within", box(0, -500, -500, 1000, 1000, 0), 1);
        Due.is("through it", box(0, 40, -5, 10, 10, 0), 1);
        Due.is("the end within", box(0, 90, -5, 50, 10, 0), 1);
        Due.is("its edge", box(0, 100, -5, 50, 10, 0), 1);
        Due.is("beside its edge", box(0, 101, -5, 50, 10, 0), 0);
        Due.is("beside its edge, with a margin", box(0, 101, -5, 50, 10, 1), 1);
        Due.is("its corner", box(0, 103, 4, 50, 50, 5), 1);
        Due.is("its corner, one off", box(0, 103, 4, 50, 50, 4), 0);
        Due.is("above it", box(0, 20, 7, 30, 0, 7), 1);
        Due.is("above it, one off", box(0, 20, 7, 30, 0, 6), 0);
        Due.is("a box of nothing on the line", box(0, 50, 0, 0, 0, 0), 1);
        // The line from (0, 0) to (71, 71): the corner (40, 30) is 50 / sqrt(50) = 7.07 from it.
        Due.is("a corner beside a slope", box(512, 40, 20, 10, 10, 8), 1);
        Due.is("a corner beside a slope, one off", box(512, 40, 20, 10, 10, 7), 0);
    }

    private static void ownBodies() {
        RobotCellHouse x = new RobotCellHouse();
        x.arm(0, 0, 0, 0);
        for (int j = 0; j < 3; j++) x.joint(0, 0, -2048, 2048, 100);
        x.radius(0, 0, 10);
        x.radius(0, 2, 20);
        x.open();
        x.hand(0, 1, 1024);
        Due.is("bodies 0 and 2 are 100 from one another", x.touches(0, 69), 0);
        Due.is("bodies 0 and 2 with a margin of 70", x.touches(0, 70), 1);
        x.hand(0, 1, 2048);
        Due.is("neighbours do not count, 0 and 2 do", x.touches(0, 0), 1);
        x.hand(0, 1, 0);
        Due.is("stretched out", x.touches(0, 69), 0);
    }

    private static void otherArms() {
        RobotCellHouse x = new RobotCellHouse();
        x.arm(0, 0, 0, 0);
        x.joint(0, 0, 0, 0, 100);
        x.arm(50, 200, 3072, 0);
        x.joint(1, 0, 0, 0, 100);
        x.arm(5000, 5000, 0, 0);
        x.joint(2, 0, 0, 0, 100);
        x.radius(1, 0, 30);
        Due.is("an arm above another", x.touches(0, 69), 0);
        Due.is("with 70", x.touches(0, 70), 1);
        Due.is("the later one, too", x.touches(1, 70), 1);
        Due.is("the far one not", x.touches(2, 70), 0);
        x.arm(0, -100, 1024, 0);
        x.joint(3, 0, 0, 0, 300);
        Due.is("arms that cross", x.touches(0, 0), 1);
        Due.is("the one that crosses", x.touches(3, 0), 1);
    }

    /** The line from (0, 0) to (7071, 7071) and places beside it, where a rounded distance would fail. */
    private static void exactly() {
        RobotCellHouse x = new RobotCellHouse();
        x.arm(0, 0, 512, 0);
        x.joint(0, 0, 0, 0, 8000);
        Due.is("its end", x.point(0, 1, 0), 5657);
        // (4000, 1172) is 2828 / sqrt(2) = 1999.698 from the line, (4000, 1171) is 2000.4.
        x.ball(4000, 1172, 0);
        Due.is("just within 2000", x.touches(0, 2000), 1);
        Due.is("just beyond 1999", x.touches(0, 1999), 0);
        x.spare(0, 0, 0);
        x.ball(4000, 1171, 0);
        Due.is("just beyond 2000", x.touches(0, 2000), 0);
    }
}
