import com.sun.management.ThreadMXBean;
import java.lang.management.ManagementFactory;
import java.util.Random;

/** An object's 512 calls, how much room they take, and that objects have nothing in common. */
public final class LimitsTest extends Checks {
    private static final int CALLS = 512;

    public static void main(String[] args) {
        allCallsAnswered();
        cornersFoundAgainEachTime();
        roomOfTheDearestCalls();
        laterCallsEnd();
        anyArgumentsEnd();
        objectsApart();
        sameCallsSameAnswers();
        end();
    }

    private static void allCallsAnswered() {
        sentence("An object is used for at most 512 calls after it has been made;");
        // The last call is answered like the first, whatever was asked between.
        GameTables x = new GameTables();
        x.game(4, 4);
        for (int call = 1; call < CALLS - 1; call++) {
            int v = call % 41 - 20;
            due(call <= 32 ? 0 : (call - 32) % 41 - 20, x.pay(call % 2, call / 2 % 4, call / 8 % 4, v));
        }
        due((CALLS - 2) % 41 - 20, x.paid(0, (CALLS - 2) / 2 % 4, (CALLS - 2) / 8 % 4));
    }

    private static void cornersFoundAgainEachTime() {
        sentence("An object is used for at most 512 calls after it has been made;");
        for (int seed = 0; seed < 3; seed++) {
            Random random = new Random(seed);
            GameTables x = new GameTables();
            Reference reference = new Reference();
            due(reference.game(4, 4), x.game(4, 4));
            for (int call = 1; call + 3 < CALLS; call += 3) {
                int place = random.nextInt(32);
                int v = random.nextInt(41) - 20;
                due(reference.pay(place / 16, place / 4 % 4, place % 4, v), x.pay(place / 16, place / 4 % 4, place % 4, v));
                int what = random.nextInt(7);
                // The reference is slow: it is asked for a part of the answers.
                if (call % 8 == 0 || call + 6 >= CALLS) {
                    due(reference.status(4), x.status(4));
                    due(reference.balance(0, what), x.balance(0, what));
                } else {
                    x.status(4);
                    x.balance(0, what);
                }
            }
        }
    }

    /** LANGUAGE.md wants what a run makes kept small. */
    private static void roomOfTheDearestCalls() {
        sentence("An object is used for at most 512 calls after it has been made;");
        if (!(ManagementFactory.getThreadMXBean() instanceof ThreadMXBean room) || !room.isThreadAllocatedMemorySupported()) {
            return;
        }
        long self = Thread.currentThread().getId();
        runDearestCalls();
        long before = room.getThreadAllocatedBytes(self);
        runDearestCalls();
        long taken = room.getThreadAllocatedBytes(self) - before;
        due(0, taken > 20000 ? taken : 0);
    }

    private static void runDearestCalls() {
        GameTables x = new GameTables();
        x.game(4, 4);
        for (int step = 0; 2 * step + 3 <= CALLS; step++) {
            // All places in turn; 32 and 41 have no common factor, so each game is another.
            x.pay(step % 2, step / 2 % 4, step / 8 % 4, step * 17 % 41 - 20);
            x.balances();
        }
    }

    private static void laterCallsEnd() {
        sentence("what later calls answer is free.");
        // Free, but LANGUAGE.md wants them to end without a throw.
        GameTables x = new GameTables();
        for (int call = 0; call < 10 * CALLS; call++) {
            callAll(x, call % 3, call % 5, call % 7 - 1, call % 43 - 21);
        }
    }

    private static void anyArgumentsEnd() {
        sentence("nothing changes but how many there were):");
        int[] edges = {Integer.MIN_VALUE, -21, -1, 0, 1, 2, 3, 4, 5, 69, 100, Integer.MAX_VALUE};
        for (int state = 0; state < 4; state++) {
            GameTables x = new GameTables();
            x.game(state == 1 ? 4 : 1 + state % 3, state == 2 ? 4 : 1 + state);
            weigh(x, 0, state, 0, 1, 1);
            for (int place = 0; place < edges.length * edges.length * edges.length * edges.length; place++) {
                int a = edges[place % edges.length];
                int b = edges[place / edges.length % edges.length];
                int c = edges[place / edges.length / edges.length % edges.length];
                int d = edges[place / edges.length / edges.length / edges.length];
                callAll(x, a, b, c, d);
            }
        }
    }

    private static void callAll(GameTables x, int a, int b, int c, int d) {
        x.pay(a, b, c, d);
        x.paid(a, b, c);
        x.weight(a, b, d);
        x.mean(a, b);
        x.answers(a);
        x.is();
        x.why();
        x.worse(a, b);
        x.left(a);
        x.times();
        x.sure(a);
        x.hold(a);
        x.corners(a);
        x.corner(a, b, c, d);
        x.balances();
        x.balance(a, b);
        x.find();
        x.raise(a, b, d);
        x.scale(a, d);
        x.status(d);
        if (a == d) {
            x.game(b, c);
            x.turn();
        }
    }

    private static void objectsApart() {
        sentence("A GAME of one choice each.");
        GameTables x = new GameTables();
        GameTables y = new GameTables();
        x.game(2, 3);
        x.pay(0, 0, 0, 9);
        x.weight(0, 0, 9);
        x.left(2);
        due(5, x.balances());
        due(1, y.status(0));
        due(1, y.status(1));
        due(0, y.paid(0, 0, 0));
        due(1, y.balances());
        due(0, y.weight(0, 0, 0));
        dueCounts(y, 0, 0, 0, 0, 0, 0);
        y.turn();
        y.game(4, 4);
        due(2, x.status(0));
        due(9, x.paid(0, 0, 0));
        due(9, x.weight(0, 0, 0));
        dueCounts(x, 1, 0, 0, 0, 0, 0);
    }

    private static void sameCallsSameAnswers() {
        sentence("A GAME of one choice each.");
        GameTables x = new GameTables();
        GameTables y = new GameTables();
        x.game(3, 3);
        y.game(3, 3);
        for (int call = 0; call < 100; call++) {
            int v = call * 7 % 13 - 6;
            due(x.pay(call % 2, call % 3, call / 3 % 3, v), y.pay(call % 2, call % 3, call / 3 % 3, v));
            due(x.balances(), y.balances());
            due(x.balance(0, call % 7), y.balance(0, call % 7));
        }
    }
}
