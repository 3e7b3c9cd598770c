import java.lang.reflect.Method;
import java.lang.reflect.Modifier;
import java.util.Arrays;
import java.util.Comparator;

/** Whatever is called with whatever: no call throws, and the same calls give the same answers. */
public final class AnyCallTest {
    private static final int[] EDGES = {Integer.MIN_VALUE, -100001, -16001, -8000, -2, -1, 0, 0, 0, 1, 1, 2, 3, 4, 5, 6, 7, 8,
        16, 31, 63, 64, 100, 800, 2000, 8000, 16000, 100000, Integer.MAX_VALUE};
    private static final String[] TEXTS = {
        "var a,b;to r:while 1:a=a+1;try:move a%50,b;catch:note error;finally:b=b-1;end grip;drop;end end to s:call r;run s;end",
        "to r:try:call r;finally:call r;end end to s:watch 1,r;while 1:set 1,time%2;end end",
        "to r:take 1;run r;wait 1;move 5;end to s:until signal(2);raise 1;end", "to r: (((", "var"};
    private long seed;

    private AnyCallTest(long seed) {
        this.seed = seed;
    }

    private int next(int n) {
        seed = seed * 6364136223846793005L + 1442695040888963407L;
        return (int) ((seed >>> 33) % n);
    }

    private int number() {
        return next(3) == 0 ? EDGES[next(EDGES.length)] : next(3) == 0 ? next(200) - 100 : next(4);
    }

    private long answers(Method[] calls, int count) throws ReflectiveOperationException {
        RobotCellHouse x = new RobotCellHouse();
        long sum = 0;
        for (int i = 0; i < count; i++) {
            Method m = calls[next(calls.length)];
            if (m.getName().equals("build") && next(20) > 0) continue;
            if (m.getName().equals("open") && i < count / 3) continue;
            if (m.getName().equals("program")) Due.tape(x, TEXTS[next(TEXTS.length)]);
            Object[] values = new Object[m.getParameterCount()];
            for (int k = 0; k < values.length; k++) {
                values[k] = m.getParameterTypes()[k] == boolean.class ? (Object) (next(2) == 0) : (Object) number();
            }
            sum = sum * 31 + (Integer) m.invoke(x, values);
        }
        return sum;
    }

    public static void main(String[] args) throws ReflectiveOperationException {
        Method[] calls = Arrays.stream(RobotCellHouse.class.getDeclaredMethods())
                .filter(m -> Modifier.isPublic(m.getModifiers()))
                .sorted(Comparator.comparing(Method::getName)).toArray(Method[]::new);
        for (int seed = 1; seed <= 600; seed++) {
            long first = new AnyCallTest(seed).answers(calls, 300);
            long second = new AnyCallTest(seed).answers(calls, 300);
            Due.is("run " + seed + " twice", first == second ? 1 : 0, 1);
        }
        // More calls than an object is promised for: they are free in what they answer, not in that they end.
        new AnyCallTest(99).answers(calls, 20000);
        Due.end();
    }
}
