import java.lang.reflect.InvocationTargetException;
import java.lang.reflect.Method;
import java.lang.reflect.Modifier;
import java.util.ArrayList;
import java.util.Comparator;
import java.util.List;
import java.util.Random;

/** Any calls with any arguments: nothing is ever thrown, all ends, and the same calls give the same answers. */
public final class WildTest {
    private static final int[] EDGES = {Integer.MIN_VALUE, Integer.MIN_VALUE + 1, -100001, -10000, -9999, -2, -1, 0, 1, 2,
        3, 4, 5, 6, 8, 9, 10, 11, 12, 13, 14, 16, 20, 21, 30, 31, 32, 35, 36, 40, 63, 64, 99, 100, 160, 4095,
        Integer.MAX_VALUE - 1, Integer.MAX_VALUE};

    private static int number(Random random) {
        switch (random.nextInt(8)) {
            case 0: return random.nextInt();
            case 1: case 2: return EDGES[random.nextInt(EDGES.length)];
            case 3: return random.nextInt(40) - 2;
            default: return random.nextInt(4);
        }
    }

    private static Object[] arguments(Method m, Random random) {
        Class<?>[] types = m.getParameterTypes();
        Object[] given = new Object[types.length];
        for (int i = 0; i < types.length; i++) {
            if (types[i] == boolean.class) {
                given[i] = random.nextBoolean();
            } else if (types[i] == long.class) {
                given[i] = random.nextLong();
            } else {
                given[i] = number(random);
            }
        }
        return given;
    }

    private static List<Integer> run(List<Method> methods, long seed) throws IllegalAccessException {
        Random random = new Random(seed);
        RaftTown x = new RaftTown();
        List<Integer> answers = new ArrayList<>();
        int findings = 0;
        for (int i = 0; i < 512; i++) {
            Method m = methods.get(random.nextInt(methods.size()));
            Object[] given = arguments(m, random);
            try {
                int answer = (Integer) m.invoke(x, given);
                answers.add(answer);
                findings += answer < -99999 ? 1 : 0;
            } catch (InvocationTargetException e) {
                System.out.println(m.getName() + java.util.Arrays.toString(given) + " threw " + e.getCause());
                System.exit(1);
            }
        }
        if (x.count(7) != findings) {
            System.out.println("count(7) answered " + x.count(7) + ", due is " + findings);
            System.exit(1);
        }
        return answers;
    }

    public static void main(String[] args) throws IllegalAccessException {
        List<Method> methods = new ArrayList<>();
        for (Method m : RaftTown.class.getDeclaredMethods()) {
            if (Modifier.isPublic(m.getModifiers())) {
                methods.add(m);
                if (m.getName().equals("raft") || m.getName().equals("tie") || m.getName().equals("person")) {
                    methods.add(m);
                    methods.add(m);
                }
            }
        }
        methods.sort(Comparator.comparing(Method::getName));
        for (int seed = 0; seed < 3000; seed++) {
            if (!run(methods, 7919L * seed).equals(run(methods, 7919L * seed))) {
                System.out.println("run " + seed + " differs when it is run again");
                System.exit(1);
            }
        }
        System.out.println("nothing was thrown");
    }
}
