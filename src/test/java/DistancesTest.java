/** Promise 51 against another reckoning of distances, in many small cells. */
public final class DistancesTest {
    private static final int BOX = -1;
    private static long seed = 7;

    public static void main(String[] args) {
        for (int i = 0; i < 3000; i++) oneCell();
        Due.end();
    }

    private static int next(int low, int high) {
        seed = seed * 6364136223846793005L + 1442695040888963407L;
        return low + (int) ((seed >>> 33) % (high - low + 1));
    }

    private static void oneCell() {
        RobotCellHouse x = new RobotCellHouse();
        int room = next(0, 1) == 0 ? 12 : 2000;
        int[][] radii = new int[2][];
        for (int a = 0; a < 2; a++) {
            x.arm(next(-room, room), next(-room, room), next(0, 3) == 0 ? next(0, 4095) : 512 * next(0, 7), 0);
            radii[a] = new int[next(1, 3)];
            for (int j = 0; j < radii[a].length; j++) {
                radii[a][j] = next(0, room / 6);
                x.joint(a, 0, -2048, 2048, next(0, room));
                x.radius(a, j, radii[a][j]);
            }
        }
        int[][] solids = new int[next(0, 2)][];
        for (int s = 0; s < solids.length; s++) solids[s] = solid(x, room);
        boolean spared = solids.length > 0 && next(0, 1) == 0;
        if (spared) x.spare(0, 0, 0);
        x.open();
        for (int a = 0; a < 2; a++) {
            for (int j = 0; j < radii[a].length; j++) x.hand(a, j, 256 * next(-8, 8));
        }
        for (int k = 0; k < 6; k++) {
            int a = next(0, 1);
            int margin = next(0, room / 2);
            boolean due = touches(bodies(x, a, radii), bodies(x, 1 - a, radii), solids, margin, spared && a == 0);
            Due.is("touches(" + a + ", " + margin + ")", x.touches(a, margin), due ? 1 : 0);
        }
    }

    /** x1, y1, x2, y2, and the radius, or BOX. */
    private static int[] solid(RobotCellHouse x, int room) {
        int cx = next(-room, room);
        int cy = next(-room, room);
        int w = next(0, room / 2);
        int h = next(0, room / 2);
        if (next(0, 1) == 0) {
            x.ball(cx, cy, w);
            return new int[] {cx, cy, cx, cy, w};
        }
        x.box(cx, cy, w, h);
        return new int[] {cx, cy, cx + w, cy + h, BOX};
    }

    private static int[][] bodies(RobotCellHouse x, int a, int[][] radii) {
        int[][] all = new int[radii[a].length][];
        for (int j = 0; j < all.length; j++) {
            all[j] = new int[] {x.point(a, j, 0), x.point(a, j, 1), x.point(a, j + 1, 0), x.point(a, j + 1, 1), radii[a][j]};
        }
        return all;
    }

    private static boolean touches(int[][] own, int[][] others, int[][] solids, int margin, boolean spared) {
        for (int i = 0; i < own.length; i++) {
            for (int k = i + 2; k < own.length; k++) if (near(own[i], own[k], margin)) return true;
            for (int s = 0; s < solids.length; s++) {
                if (!(spared && i == 0 && s == 0) && near(own[i], solids[s], margin)) return true;
            }
            for (int[] other : others) if (near(own[i], other, margin)) return true;
        }
        return false;
    }

    private static boolean near(int[] line, int[] other, int margin) {
        long reach = line[4] + Math.max(other[4], 0) + margin;
        if (other[4] != BOX) return nearLine(line, other, reach);
        int[][] corners = {{other[0], other[1]}, {other[2], other[1]}, {other[2], other[3]}, {other[0], other[3]}};
        for (int end = 0; end < 4; end += 2) {
            long dx = line[end] - Math.max(other[0], Math.min(other[2], line[end]));
            long dy = line[end + 1] - Math.max(other[1], Math.min(other[3], line[end + 1]));
            if (dx * dx + dy * dy <= reach * reach) return true;
        }
        for (int[] c : corners) if (nearPlace(line, c[0], c[1], reach)) return true;
        // A line through a box crosses one of its diagonals.
        int[] falling = {other[0], other[3], other[2], other[1], 0};
        return nearLine(line, other, 0) || nearLine(line, falling, 0);
    }

    private static boolean nearLine(int[] p, int[] q, long reach) {
        long px = p[2] - p[0];
        long py = p[3] - p[1];
        long qx = q[2] - q[0];
        long qy = q[3] - q[1];
        long det = px * qy - py * qx;
        if (det != 0) {
            long s = ((q[0] - p[0]) * qy - (q[1] - p[1]) * qx) * Long.signum(det);
            long t = ((q[0] - p[0]) * py - (q[1] - p[1]) * px) * Long.signum(det);
            if (s >= 0 && s <= Math.abs(det) && t >= 0 && t <= Math.abs(det)) return true;
        }
        return nearPlace(p, q[0], q[1], reach) || nearPlace(p, q[2], q[3], reach)
                || nearPlace(q, p[0], p[1], reach) || nearPlace(q, p[2], p[3], reach);
    }

    private static boolean nearPlace(int[] line, int x, int y, long reach) {
        long dx = line[2] - line[0];
        long dy = line[3] - line[1];
        long length = dx * dx + dy * dy;
        long along = Math.max(0, Math.min(length, dx * (x - line[0]) + dy * (y - line[1])));
        if (length == 0) length = 1;
        // The place on the line, length times as great.
        long fx = length * (x - line[0]) - along * dx;
        long fy = length * (y - line[1]) - along * dy;
        double limit = (double) reach * length;
        double far = Math.sqrt((double) fx * fx + (double) fy * fy);
        if (Math.abs(far - limit) > 1e-9 * (far + limit)) return far < limit;
        java.math.BigInteger square = java.math.BigInteger.valueOf(fx).pow(2).add(java.math.BigInteger.valueOf(fy).pow(2));
        return square.compareTo(java.math.BigInteger.valueOf(reach * length).pow(2)) <= 0;
    }
}
