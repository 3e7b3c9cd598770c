import java.io.File;
import java.io.IOException;
import java.lang.reflect.Method;
import java.lang.reflect.Modifier;
import java.nio.file.Files;
import java.nio.file.Path;

/** README.md: its runs answer what it says, and it names each call of the face and each test. */
public final class ReadmeTest {
    private static final String TESTS = "src/test/java";

    public static void main(String[] args) throws IOException {
        arms();
        programs();
        String readme = Files.readString(Path.of("README.md"));
        linesAreTheseHere(readme);
        for (Method m : RobotCellHouse.class.getDeclaredMethods()) {
            if (Modifier.isPublic(m.getModifiers())) isNamed(readme, m.getName());
        }
        for (String file : new File(TESTS).list()) {
            if (file.endsWith("Test.java")) isNamed(readme, file.substring(0, file.length() - 5));
        }
        Due.end();
    }

    private static void arms() {
        RobotCellHouse house = new RobotCellHouse();
        int arm = house.arm(0, 0, 0, 60);
        int joint = house.joint(arm, 0, -1000, 1000, 800);
        house.box(600, -700, 100, 100);
        house.person(0, true);
        int arms = house.open();
        int power = house.reset(0);
        house.aim(joint, 96);
        int steps = house.plan(arm, 16, 0);
        int moves = house.travel(arm);
        int ticks = house.run(100);
        int value = house.value(arm, joint);
        int rows = house.count(6);
        int tick = house.back(3);
        int before = house.value(arm, joint);
        Due.is("arms", arms, 1);
        Due.is("power", power, 1);
        Due.is("steps", steps, 6);
        Due.is("moves", moves, 1);
        Due.is("ticks", ticks, 100);
        Due.is("value", value, 96);
        Due.is("rows", rows, 5);
        Due.is("tick", tick, 0);
        Due.is("before", before, 0);
    }

    private static void programs() {
        String text = "var n; to main: while n < 3: n = n + 1; note n * n; wait 2; end end";
        byte[] tape = java.util.Arrays.copyOf(text.getBytes(), (text.length() + 19) / 20 * 20);
        java.nio.ByteBuffer in = java.nio.ByteBuffer.wrap(tape);
        RobotCellHouse cell = new RobotCellHouse();
        while (in.hasRemaining()) cell.feed(in.getInt(), in.getInt(), in.getInt(), in.getInt(), in.getInt());
        cell.cut(tape.length - text.length());
        cell.arm(0, 0, 0, 0);
        int routines = cell.program(0);
        cell.open();
        int task = cell.start(0, 0);
        cell.run(10);
        int state = cell.task(task, 0);
        int events = cell.events();
        int noted = cell.event(2, 3);
        Due.is("routines", routines, 1);
        Due.is("task", task, 0);
        Due.is("state", state, 6);
        Due.is("events", events, 4);
        Due.is("noted", noted, 9);
    }

    /** Each line of Java of the README stands in this test, with the answer that it tells as due. */
    private static void linesAreTheseHere(String readme) throws IOException {
        String here = Files.readString(Path.of(TESTS, "ReadmeTest.java"));
        boolean java = false;
        int seen = 0;
        for (String line : readme.split("\n")) {
            if (line.startsWith("```")) {
                java = line.equals("```java");
            } else if (java) {
                seen++;
                String[] halves = line.split(" +// *", 2);
                Due.is("as here: " + halves[0], here.contains("    " + halves[0] + "\n") ? 1 : 0, 1);
                boolean told = halves.length == 2 && halves[1].matches("-?[0-9]+\\b.*");
                if (told) answerIsTheSame(here, halves[0], halves[1].split("[^-0-9]")[0]);
            }
        }
        Due.is("lines of Java in the README", seen > 20 ? 1 : 0, 1);
    }

    private static void answerIsTheSame(String here, String line, String answer) {
        String name = line.substring("int ".length(), line.indexOf(" = "));
        String due = "Due.is(\"" + name + "\", " + name + ", " + answer + ");";
        Due.is("due here as told: " + line, here.contains(due) ? 1 : 0, 1);
    }

    private static void isNamed(String readme, String name) {
        Due.is(name + " in the README", readme.contains("`" + name + "`") ? 1 : 0, 1);
    }
}
