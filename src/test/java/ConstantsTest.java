public final class ConstantsTest {
    public static void main(String[] args) {
        Due.is("BAD", RobotCellHouse.BAD, -1);
        Due.is("NO", RobotCellHouse.NO, -2);
        Due.is("FULL", RobotCellHouse.FULL, -3);
        Due.end();
    }
}
