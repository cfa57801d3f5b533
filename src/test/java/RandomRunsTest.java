import java.lang.reflect.Method;
import java.util.Arrays;
import java.util.Random;

/** Runs of 512 calls by a fixed seed, each answer compared with that of Reference. */
public final class RandomRunsTest {
    /** What calls beyond these answer is free. */
    private static final int CALLS = 512;
    private static final int STATUS_CALLS = 20;
    private static final int[] EDGES = {
        Integer.MIN_VALUE, -1000000000, -41, -40, -21, -20, -2, -1, 0, 1, 2, 3, 4, 5, 6, 7, 10, 11, 16, 17, 20, 21, 40,
        41, 99, 100, 214748365, 1000000000, Integer.MAX_VALUE
    };

    private final Random random;
    private final GameTables program = new GameTables();
    private final Reference reference = new Reference();
    private final StringBuilder calls = new StringBuilder();
    private int made = 0;
    private int most = CALLS - STATUS_CALLS;
    private int wrong = 0;

    private RandomRunsTest(long seed) {
        random = new Random(seed);
    }

    public static void main(String[] args) {
        int runs = args.length > 0 ? Integer.parseInt(args[0]) : 100;
        int wrong = 0;
        for (int seed = 0; seed < runs && wrong < 5; seed++) {
            wrong += new RandomRunsTest(seed).run();
        }
        if (wrong > 0) {
            System.exit(1);
        }
    }

    private int run() {
        // Few different pays make ties, and so the degenerate corners, common.
        int span = new int[] {0, 1, 2, 3, 20}[random.nextInt(5)];
        layGame(span);
        while (made < most && wrong == 0) {
            if (random.nextInt(30) == 0) {
                layGame(span);
            }
            step(span);
        }
        most = CALLS;
        for (int what = 0; what < STATUS_CALLS && wrong == 0; what++) {
            call("status", what);
        }
        return wrong;
    }

    private void layGame(int span) {
        int m = 1 + random.nextInt(4);
        int n = random.nextInt(3) == 0 ? m : 1 + random.nextInt(4);
        int shape = random.nextInt(6);
        call("game", m, n);
        for (int i = 0; i < m && wrong == 0; i++) {
            for (int k = 0; k < n && wrong == 0; k++) {
                int v = random.nextInt(2 * span + 1) - span;
                call("pay", 0, i, k, v);
                if (shape == 0) {
                    call("pay", 1, i, k, -v);
                } else if (shape == 1 && m == n) {
                    call("pay", 1, k, i, v);
                } else {
                    call("pay", 1, i, k, random.nextInt(2 * span + 1) - span);
                }
            }
        }
    }

    private void step(int span) {
        int who = small(2);
        switch (random.nextInt(24)) {
            case 0: call("game", small(5), small(5)); break;
            case 1: call("pay", who, small(4), small(4), random.nextBoolean() ? edge() : random.nextInt(2 * span + 1) - span); break;
            case 2: call("paid", who, small(4), small(4)); break;
            case 3: case 4: call("weight", who, small(4), small(100)); break;
            case 5: call("mean", who, small(2)); break;
            case 6: call("answers", who); break;
            case 7: call("is"); break;
            case 8: call("why"); break;
            case 9: call("worse", who, small(4)); break;
            case 10: call("left", who); break;
            case 11: call("times"); break;
            case 12: call("sure", who); break;
            case 13: call("hold", who); break;
            case 14: call("corners", who); break;
            case 15: allCorners(); break;
            case 16: call("balances"); break;
            case 17: allBalances(); break;
            case 18: call("find"); break;
            case 19: call("turn"); break;
            case 20: call("raise", who, small(4), random.nextBoolean() ? edge() : random.nextInt(9) - 4); break;
            case 21: call("scale", who, random.nextBoolean() ? edge() : small(4)); break;
            case 22: call("status", edge()); break;
            default: trayOfABalance(); break;
        }
    }

    private void allCorners() {
        int who = random.nextInt(2);
        int count = reference.corners(who);
        for (int c = 0; c < count && wrong == 0; c++) {
            for (int choice = 0; choice < reference.status(who); choice++) {
                call("corner", who, c, choice, random.nextInt(3));
            }
        }
        call("corner", small(2), random.nextInt(count + 2) - 1, small(4), small(3));
    }

    private void allBalances() {
        int count = reference.balances();
        for (int b = 0; b < Math.min(count, 5) && wrong == 0; b++) {
            call("balance", random.nextInt(count), random.nextInt(7));
        }
        call("balance", random.nextInt(count + 2) - 1, small(7));
        call("balance", edge(), edge());
    }

    /** Lays a balance in the tray, as far as its shares can be weights, and a neighbour of it. */
    private void trayOfABalance() {
        int count = reference.balances();
        if (count == 0) {
            return;
        }
        int b = random.nextInt(count);
        for (int who = 0; who < 2; who++) {
            int corner = (int) reference.balance(b, who);
            long common = 1;
            for (int choice = 0; choice < reference.status(who); choice++) {
                long bottom = reference.corner(who, corner, choice, 1);
                common = common / gcd(common, bottom) * bottom;
            }
            for (int choice = 0; choice < reference.status(who); choice++) {
                long part = common / reference.corner(who, corner, choice, 1) * reference.corner(who, corner, choice, 0);
                call("weight", who, choice, (int) Math.min(part, 100));
            }
        }
        for (String name : new String[] {"find", "is", "why"}) {
            call(name);
        }
        call("weight", random.nextInt(2), random.nextInt(4), random.nextInt(3));
        for (String name : new String[] {"find", "is", "why"}) {
            call(name);
        }
    }

    private static long gcd(long a, long b) {
        return b == 0 ? a : gcd(b, a % b);
    }

    /** Mostly 0 .. limit - 1, now and then one beyond it, or an edge. */
    private int small(int limit) {
        int dice = random.nextInt(40);
        if (dice == 0) {
            return edge();
        }
        return dice < 3 ? random.nextInt(limit + 2) - 1 : random.nextInt(limit);
    }

    private int edge() {
        return EDGES[random.nextInt(EDGES.length)];
    }

    private void call(String name, int... a) {
        if (wrong > 0 || made == most) {
            return;
        }
        made++;
        calls.append(name).append(Arrays.toString(a)).append('\n');
        long got = ask(program, name, a);
        long due = ask(reference, name, a);
        if (got != due) {
            wrong++;
            System.out.println(calls + "answered " + got + ", due is " + due);
        }
    }

    private static long ask(Object asked, String name, int[] arguments) {
        Class<?>[] types = new Class<?>[arguments.length];
        Arrays.fill(types, int.class);
        try {
            Method method = asked.getClass().getDeclaredMethod(name, types);
            return ((Number) method.invoke(asked, Arrays.stream(arguments).boxed().toArray())).longValue();
        } catch (ReflectiveOperationException e) {
            throw new IllegalStateException(name + Arrays.toString(arguments), e);
        }
    }
}
