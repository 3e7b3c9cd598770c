import java.lang.reflect.Constructor;
import java.lang.reflect.Field;
import java.lang.reflect.Method;
import java.lang.reflect.Modifier;

/** The public face: the document's constants, constructor and methods, and nothing else. */
public final class FaceTest {
    private static final String FACE = "feed5 cut1 build0 arm4 joint5 pace4 radius3 ball3 box4 spare3 belt5 drive2 "
            + "sensor4 part3 lay3 zone5 most2 input1 person2 wire3 program1 fault1 open0 start2 run1 set2 force3 "
            + "channel3 reset1 stop1 acknowledge1 hand3 aim2 plan3 travel1 back1 time0 state2 value2 point3 step2 "
            + "task2 variable2 signal2 lock1 about2 safety1 events0 event2 touches2 count1 never1 ";

    public static void main(String[] args) {
        Due.is("BAD", RobotCellHouse.BAD, -1);
        Due.is("NO", RobotCellHouse.NO, -2);
        Due.is("FULL", RobotCellHouse.FULL, -3);
        methods();
        fields();
        for (Constructor<?> c : RobotCellHouse.class.getDeclaredConstructors()) {
            Due.is("parameters of a constructor", c.getParameterCount(), 0);
        }
        Due.end();
    }

    private static void methods() {
        int seen = 0;
        for (Method m : RobotCellHouse.class.getDeclaredMethods()) {
            boolean inFace = (" " + FACE).contains(" " + m.getName() + m.getParameterCount() + " ");
            boolean isPublic = Modifier.isPublic(m.getModifiers());
            if (isPublic) seen++;
            Due.is("visibility of " + m.getName(), isPublic || Modifier.isPrivate(m.getModifiers()) ? 1 : 0, 1);
            Due.is("place in the face of " + m.getName(), inFace ? 1 : 0, isPublic ? 1 : 0);
        }
        Due.is("public methods", seen, FACE.split(" ").length);
    }

    private static void fields() {
        for (Field f : RobotCellHouse.class.getDeclaredFields()) {
            boolean constant = "BAD NO FULL".contains(f.getName());
            boolean hidden = Modifier.isPrivate(f.getModifiers());
            Due.is("visibility of " + f.getName(), hidden ? 1 : 0, constant ? 0 : 1);
            boolean changes = Modifier.isStatic(f.getModifiers()) && !Modifier.isFinal(f.getModifiers());
            Due.is("static state in " + f.getName(), changes ? 1 : 0, 0);
        }
    }
}
