import java.lang.management.ManagementFactory;
import java.lang.reflect.InvocationTargetException;
import java.lang.reflect.Method;
import java.lang.reflect.Modifier;

/** No call throws, whatever its arguments are; and what a run makes stays small. */
public final class RoomTests {
    private static final int[] EDGES = {Integer.MIN_VALUE, -2, -1, 0, 1, 3, 4, 6, 7, 8, 42, Integer.MAX_VALUE};
    private static final int[] FEW_EDGES = {Integer.MIN_VALUE, 0, 6, Integer.MAX_VALUE};
    private static final long[] LONG_EDGES = {Long.MIN_VALUE, -1, 0, 33, 34359738367L, Long.MAX_VALUE};
    private static int wrong;

    private static WordGrid full() {
        WordGrid x = new WordGrid();
        Due.words(x, 0, "AB", "BA", "AA", "ABA", "BAB");
        Due.words(x, 1, "AB", "BA");
        Due.words(x, 2, "AB");
        x.list(3, 1, 0, Due.w("?B"));
        x.list(4, 3, 2, 0);
        x.grid(0, 7, 7);
        Due.draw(x, 1, "AB.", "#..", "...");
        x.uses(1, false, 0);
        x.uses(1, true, 4);
        x.grid(3, 7, 7);
        x.cut(3, 2, -1);
        x.cut(3, 4, 0);
        return x;
    }

    private static Object argument(Class<?> type, int choice, int[] edges) {
        if (type == boolean.class) {
            return choice == 0;
        }
        if (type == long.class) {
            return LONG_EDGES[choice];
        }
        return edges[choice];
    }

    private static int choices(Class<?> type, int[] edges) {
        return type == boolean.class ? 2 : type == long.class ? LONG_EDGES.length : edges.length;
    }

    private static void everyArgument(WordGrid x, Method method) throws IllegalAccessException {
        Class<?>[] types = method.getParameterTypes();
        int[] edges = types.length > 5 ? FEW_EDGES : EDGES;
        int[] chosen = new int[types.length];
        Object[] arguments = new Object[types.length];
        boolean more = true;
        while (more) {
            for (int i = 0; i < types.length; i++) {
                arguments[i] = argument(types[i], chosen[i], edges);
            }
            try {
                method.invoke(x, arguments);
            } catch (InvocationTargetException e) {
                wrong++;
                System.out.println(method + " with " + java.util.Arrays.toString(arguments) + " threw " + e.getCause());
                return;
            }
            int i = 0;
            while (i < types.length && ++chosen[i] == choices(types[i], edges)) {
                chosen[i++] = 0;
            }
            more = i < types.length;
        }
    }

    private static void nothingThrows() throws IllegalAccessException {
        for (Method method : WordGrid.class.getDeclaredMethods()) {
            if (Modifier.isPublic(method.getModifiers())) {
                everyArgument(new WordGrid(), method);
                everyArgument(full(), method);
            }
        }
        WordGrid one = full();
        for (Method method : WordGrid.class.getDeclaredMethods()) {
            if (Modifier.isPublic(method.getModifiers())) {
                everyArgument(one, method);
            }
        }
    }

    private static long bytes() {
        java.lang.management.ThreadMXBean bean = ManagementFactory.getThreadMXBean();
        return bean instanceof com.sun.management.ThreadMXBean own
            ? own.getThreadAllocatedBytes(Thread.currentThread().getId()) : 0;
    }

    /** A run with as many entries, words and bodies as there can be: 512 calls. */
    private static int dearest(WordGrid x) {
        x.list(0, 0, 0, 0);
        for (int i = 0; i < 40; i++) {
            x.word(0, Due.w("" + (char) ('A' + i % 7) + (char) ('A' + i / 7)), 0);
        }
        x.list(4, 0, 0, 0);
        x.list(4, 1, 1, 0);
        x.list(4, 2, 2, 0);
        x.list(4, 3, 2, 0);
        x.list(4, 4, 2, 0);
        int answers = x.count(0);
        x.grid(0, 7, 7);
        x.grid(1, 7, 7);
        for (int i = 0; i < 7; i++) {
            for (int j = 1; j < 6; j += 2) {
                x.bar(0, i, j, false, true);
                x.bar(0, j, i, true, true);
            }
        }
        x.uses(0, false, 4);
        x.uses(0, true, 4);
        for (int i = 100; i < 512; i++) {
            switch (i % 8) {
                case 0: answers += x.fill(0, 5000); break;
                case 1: answers += x.goOn(5000); break;
                case 2: answers += x.judge(0, i % 11); break;
                case 3: answers += x.turn(1); break;
                case 4: answers += x.move(0, 0, 0, 1, 0, 0, 7, 7); break;
                default: answers += x.solve(0, 1000, 5000);
            }
        }
        return answers;
    }

    private static void staysSmall() {
        dearest(new WordGrid());
        long before = bytes();
        WordGrid x = new WordGrid();
        long made = bytes() - before;
        dearest(x);
        long all = bytes() - before;
        // The words' texts, which the test itself makes, are among these.
        if (made > 60000 || all > 250000) {
            wrong++;
            System.out.println("a new object takes " + made + " bytes, a run of 512 calls " + all);
        }
    }

    public static void main(String[] args) throws IllegalAccessException {
        nothingThrows();
        staysSmall();
        System.out.println(wrong == 0 ? "RoomTests: nothing throws, and all fits" : "RoomTests: " + wrong + " things are wrong");
        if (wrong != 0) {
            System.exit(1);
        }
    }
}
