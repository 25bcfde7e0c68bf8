import java.lang.reflect.Method;
import java.lang.reflect.Modifier;
import java.util.ArrayList;
import java.util.Arrays;
import java.util.Comparator;
import java.util.List;
import java.util.Random;

/** Calls with arbitrary arguments in arbitrary states: none throws, none refused changes a thing. */
public final class SafetyTest {
    private static final int RUNS = 300;
    private static final int CALLS = 512;
    private static final int[] EDGES = {
        Integer.MIN_VALUE, Integer.MIN_VALUE + 1, -1005, -1001, -61, -13, -8, -7, -2, -1, 0, 1, 2, 3, 6, 7, 8, 12,
        13, 24, 25, 31, 32, 60, 61, 120, 400, 401, 4095, 4096, Integer.MAX_VALUE
    };
    private static final String TEXT = "a1b1a2-b2-c1c2-(a1b1-)3 (c1b2-)2 ";

    private final Random random = new Random(11);
    private final List<Method> calls = new ArrayList<>();

    public static void main(String[] args) throws Exception {
        new SafetyTest().runAll();
    }

    private void runAll() throws Exception {
        for (Method method : SkinTwists.class.getDeclaredMethods()) {
            if (Modifier.isPublic(method.getModifiers())) {
                calls.add(method);
            }
        }
        calls.sort(Comparator.comparing(Method::getName));
        if (calls.size() != 29) {
            System.out.println("there are " + calls.size() + " public methods, due are 29");
            System.exit(1);
        }
        for (int run = 0; run < RUNS; run++) {
            oneRun();
        }
        System.out.println("SafetyTest: " + RUNS * CALLS + " calls, none threw");
    }

    private void oneRun() throws Exception {
        SkinTwists x = new SkinTwists();
        x.skin(1 + random.nextInt(3));
        for (int k = 1; k < CALLS; k++) {
            Method call = calls.get(random.nextInt(calls.size()));
            if (call.getName().equals("skin") && random.nextInt(20) != 0) {
                continue;
            }
            if (random.nextInt(3) == 0) {
                x.letter(random.nextInt(13) - 6);
            }
            Object[] arguments = argumentsOf(call);
            String before = countsOf(x);
            long answer;
            try {
                answer = ((Number) call.invoke(x, arguments)).longValue();
            } catch (java.lang.reflect.InvocationTargetException thrown) {
                System.out.println(call.getName() + Arrays.toString(arguments) + " threw " + thrown.getCause());
                System.exit(1);
                return;
            }
            boolean refused = answer <= -1001 && answer >= -1005;
            if (refused && !before.equals(countsOf(x))) {
                System.out.println(call.getName() + Arrays.toString(arguments) + " was refused and changed the counts");
                System.exit(1);
            }
        }
    }

    private static String countsOf(SkinTwists x) {
        StringBuilder counts = new StringBuilder();
        for (int what = 0; what < 5; what++) {
            counts.append(x.count(what)).append(' ');
        }
        for (int p = 0; p < 8; p++) {
            counts.append(x.twist(p, -1)).append(' ');
        }
        return counts.append(x.fault()).toString();
    }

    private Object[] argumentsOf(Method call) {
        if (call.getName().equals("feed") && random.nextInt(4) != 0) {
            int from = random.nextInt(TEXT.length() - 8);
            int n = 1 + random.nextInt(8);
            long bytes = 0;
            for (int k = 0; k < n; k++) {
                bytes = bytes << 8 | TEXT.charAt(from + k);
            }
            return new Object[] {n, bytes};
        }
        Class<?>[] kinds = call.getParameterTypes();
        Object[] arguments = new Object[kinds.length];
        for (int k = 0; k < kinds.length; k++) {
            if (kinds[k] == long.class) {
                arguments[k] = random.nextLong();
            } else {
                arguments[k] = someNumber();
            }
        }
        return arguments;
    }

    private int someNumber() {
        switch (random.nextInt(8)) {
            case 0: return random.nextInt();
            case 1: return EDGES[random.nextInt(EDGES.length)];
            default: return random.nextInt(10) - 2;
        }
    }
}
