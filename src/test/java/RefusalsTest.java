import java.util.Arrays;

/** REFUSALS: their numbers, their order, that nothing changes but how many there were. */
public final class RefusalsTest extends Checks {
    private interface Call {
        long on(GameTables x);
    }

    public static void main(String[] args) {
        nobody();
        other();
        below();
        state();
        room();
        orderOfTwo();
        orderOfThree();
        amongPays();
        amongLongs();
        noRefusals();
        countedTogether();
        end();
    }

    /** A game whose every answer would tell a change; with a full tray or without one. */
    private static GameTables made(boolean full) {
        GameTables x = gameOf(new int[][] {{3, 1, -20}, {0, 2, 20}}, new int[][] {{2, 1, 7}, {-20, 20, 5}});
        if (full) {
            weigh(x, 0, 1, 2, 3, 4);
            weigh(x, 1, 5, 6, 7, 8);
        } else {
            weigh(x, 0, 0, 0, 3, 4);
            weigh(x, 1, 0, 0, 0, 8);
        }
        return x;
    }

    /** All that can be seen but for the refusals. */
    private static long[] seen(GameTables x) {
        long[] seen = new long[200];
        int at = 0;
        for (int what = 0; what <= 4; what++) {
            seen[at++] = x.status(what);
        }
        for (int place = 0; place < 12; place++) {
            seen[at++] = x.paid(place / 6, place / 3 % 2, place % 3);
        }
        for (int who = 0; who < 2; who++) {
            seen[at++] = x.left(who);
            seen[at++] = x.sure(who);
            seen[at++] = x.hold(who);
            seen[at++] = x.corners(who);
        }
        for (int c = 0; c < x.corners(0); c++) {
            seen[at++] = x.corner(0, c, 0, 0);
            seen[at++] = x.corner(0, c, 0, 1);
        }
        for (int c = 0; c < x.corners(1); c++) {
            seen[at++] = x.corner(1, c, 0, 0);
            seen[at++] = x.corner(1, c, 1, 1);
        }
        for (int place = 0; place < 7 * x.balances(); place++) {
            seen[at++] = x.balance(place / 7, place % 7);
        }
        seen[at++] = x.why();
        seen[at++] = x.times();
        for (int place = 0; place < 8; place++) {
            int was = x.weight(place / 4, place % 4, 1);
            seen[at++] = was;
            x.weight(place / 4, place % 4, was);
        }
        return seen;
    }

    /** Refused by this number, told as the call tells it, counted once, and nothing else changes. */
    private static void dueRefused(int number, long told, boolean full, Call call) {
        // Corners may be known ahead of the call or not.
        for (int known = 0; known < 2; known++) {
            GameTables x = made(full);
            if (known == 1) {
                x.balances();
            }
            due(told, call.on(x));
            for (int n = 1; n <= 6; n++) {
                due(n == -number ? 1 : 0, x.status(10 + n));
            }
            due(1, Arrays.equals(seen(made(full)), seen(x)) ? 1 : 0);
            due(told, call.on(x));
            due(2, x.status(10 - number));
        }
    }

    private static void dueRefused(int number, boolean full, Call call) {
        dueRefused(number, number, full, call);
    }

    private static void nobody() {
        sentence("-1 NOBODY: no such WHO, choice, CORNER, BALANCE.");
        for (int who : new int[] {-1, 2}) {
            dueRefused(-1, PAYS + 1, true, x -> x.pay(who, 0, 0, 0));
            dueRefused(-1, PAYS + 1, true, x -> x.paid(who, 0, 0));
            dueRefused(-1, true, x -> x.weight(who, 0, 0));
            dueRefused(-1, LONGS + 1, true, x -> x.mean(who, 0));
            dueRefused(-1, true, x -> x.answers(who));
            dueRefused(-1, true, x -> x.worse(who, 0));
            dueRefused(-1, true, x -> x.left(who));
            dueRefused(-1, PAYS + 1, true, x -> x.sure(who));
            dueRefused(-1, PAYS + 1, true, x -> x.hold(who));
            dueRefused(-1, true, x -> x.corners(who));
            dueRefused(-1, true, x -> x.corner(who, 0, 0, 0));
            dueRefused(-1, true, x -> x.raise(who, 0, 1));
            dueRefused(-1, true, x -> x.scale(who, 1));
        }
        for (int choice : new int[] {-1, 2}) {
            dueRefused(-1, PAYS + 1, true, x -> x.pay(0, choice, 0, 1));
            dueRefused(-1, PAYS + 1, true, x -> x.pay(1, choice, 0, 1));
            dueRefused(-1, PAYS + 1, true, x -> x.paid(1, choice, 0));
            dueRefused(-1, true, x -> x.worse(0, choice));
            dueRefused(-1, true, x -> x.corner(0, 0, choice, 0));
            dueRefused(-1, true, x -> x.raise(1, choice, 1));
        }
        for (int choice : new int[] {-1, 3}) {
            dueRefused(-1, PAYS + 1, true, x -> x.pay(0, 0, choice, 1));
            dueRefused(-1, PAYS + 1, true, x -> x.pay(1, 0, choice, 1));
            dueRefused(-1, PAYS + 1, true, x -> x.paid(0, 0, choice));
            dueRefused(-1, true, x -> x.worse(1, choice));
            dueRefused(-1, true, x -> x.corner(1, 0, choice, 2));
            dueRefused(-1, true, x -> x.raise(0, choice, 1));
        }
        dueRefused(-1, true, x -> x.weight(0, 4, 1));
        dueRefused(-1, true, x -> x.weight(1, -1, 1));
        dueRefused(-1, true, x -> x.corner(0, -1, 0, 0));
        dueRefused(-1, true, x -> x.corner(0, x.corners(0), 0, 0));
        dueRefused(-1, true, x -> x.corner(1, x.corners(1), 0, 0));
        dueRefused(-1, LONGS + 1, true, x -> x.balance(-1, 0));
        dueRefused(-1, LONGS + 1, true, x -> x.balance(x.balances(), 0));
    }

    private static void other() {
        sentence("-2 OTHER: no such what.");
        for (int what : new int[] {-1, 2}) {
            dueRefused(-2, LONGS + 2, true, x -> x.mean(0, what));
            dueRefused(-2, LONGS + 2, false, x -> x.mean(1, what));
        }
        for (int what : new int[] {-1, 3}) {
            dueRefused(-2, true, x -> x.corner(0, 0, 0, what));
            dueRefused(-2, true, x -> x.corner(1, 0, 2, what));
        }
        for (int what : new int[] {-1, 7}) {
            dueRefused(-2, LONGS + 2, true, x -> x.balance(0, what));
        }
    }

    private static void below() {
        sentence("-4 BELOW: a number below the least.");
        dueRefused(-4, true, x -> x.game(0, 3));
        dueRefused(-4, true, x -> x.game(2, 0));
        dueRefused(-4, PAYS + 4, true, x -> x.pay(0, 0, 0, -21));
        dueRefused(-4, PAYS + 4, true, x -> x.pay(1, 1, 2, -21));
        dueRefused(-4, true, x -> x.weight(0, 0, -1));
        dueRefused(-4, true, x -> x.weight(1, 3, -1));
        dueRefused(-4, true, x -> x.raise(0, 2, -1));
        dueRefused(-4, true, x -> x.raise(1, 1, -1));
        dueRefused(-4, true, x -> x.scale(0, 0));
        dueRefused(-4, true, x -> x.scale(1, -1));
    }

    private static void state() {
        sentence("-5 STATE: a MIX that the TRAY has not.");
        dueRefused(-5, LONGS + 5, false, x -> x.mean(0, 0));
        dueRefused(-5, LONGS + 5, false, x -> x.mean(1, 1));
        dueRefused(-5, false, x -> x.answers(0));
        dueRefused(-5, false, x -> x.answers(1));
        dueRefused(-5, false, x -> x.is());
        dueRefused(-5, false, x -> x.find());
    }

    private static void room() {
        sentence("-6 ROOM: a number above the greatest.");
        dueRefused(-6, true, x -> x.game(5, 3));
        dueRefused(-6, true, x -> x.game(2, 5));
        dueRefused(-6, PAYS + 6, true, x -> x.pay(0, 0, 0, 21));
        dueRefused(-6, PAYS + 6, true, x -> x.pay(1, 1, 2, 21));
        dueRefused(-6, true, x -> x.weight(0, 0, 100));
        dueRefused(-6, true, x -> x.weight(1, 3, 100));
        dueRefused(-6, true, x -> x.raise(0, 2, 1));
        dueRefused(-6, true, x -> x.raise(1, 1, 1));
        dueRefused(-6, true, x -> x.scale(0, 2));
        dueRefused(-6, true, x -> x.scale(1, 2));
    }

    private static void orderOfTwo() {
        sentence("(the call answers the number, the first that fits in the order in which it tells them;");
        dueRefused(-4, true, x -> x.game(0, 5));
        dueRefused(-4, true, x -> x.game(5, 0));
        dueRefused(-1, PAYS + 1, true, x -> x.pay(2, 0, 0, -21));
        dueRefused(-1, PAYS + 1, true, x -> x.pay(0, 2, 0, 21));
        dueRefused(-1, PAYS + 1, true, x -> x.pay(0, 0, 3, 21));
        dueRefused(-1, true, x -> x.weight(2, 0, -1));
        dueRefused(-1, true, x -> x.weight(0, 4, 100));
        dueRefused(-1, LONGS + 1, true, x -> x.mean(2, 2));
        dueRefused(-1, LONGS + 1, false, x -> x.mean(2, 0));
        dueRefused(-2, LONGS + 2, false, x -> x.mean(0, 2));
        dueRefused(-1, false, x -> x.answers(2));
        dueRefused(-1, true, x -> x.corner(2, 0, 0, 3));
        dueRefused(-1, true, x -> x.corner(0, -1, 0, 3));
        dueRefused(-1, true, x -> x.corner(0, 0, 2, 3));
        dueRefused(-1, LONGS + 1, true, x -> x.balance(-1, 7));
        dueRefused(-1, true, x -> x.raise(2, 0, 41));
        dueRefused(-1, true, x -> x.raise(0, 3, -41));
        dueRefused(-1, true, x -> x.scale(2, 0));
        dueRefused(-1, true, x -> x.scale(-1, 21));
    }

    private static void orderOfThree() {
        sentence("(the call answers the number, the first that fits in the order in which it tells them;");
        dueRefused(-1, LONGS + 1, false, x -> x.mean(-1, -1));
        dueRefused(-1, LONGS + 1, false, x -> x.mean(MAX, MAX));
        // Of two arguments that are nobody's one refusal is counted.
        dueRefused(-1, PAYS + 1, true, x -> x.pay(2, 2, 3, 21));
        dueRefused(-1, PAYS + 1, true, x -> x.paid(-1, -1, -1));
        dueRefused(-1, true, x -> x.corner(2, -1, 4, 3));
        dueRefused(-4, true, x -> x.game(0, 0));
        dueRefused(-6, true, x -> x.game(5, 5));
    }

    private static void amongPays() {
        sentence("Of pay(), paid(), sure(), hold() REFUSALS are 1000000000 less it (so -1 is 1000000001),");
        GameTables x = new GameTables();
        due(1000000001L, x.pay(2, 0, 0, 0));
        due(1000000004L, x.pay(0, 0, 0, -21));
        due(1000000006L, x.pay(0, 0, 0, 21));
        due(1000000001L, x.paid(0, 1, 0));
        due(1000000001L, x.sure(2));
        due(1000000001L, x.hold(2));
        dueCounts(x, 4, 0, 0, 1, 0, 1);
    }

    private static void amongLongs() {
        sentence("of longs 4000000000000000000 less it.");
        GameTables x = new GameTables();
        due(4000000000000000001L, x.mean(2, 0));
        due(4000000000000000002L, x.mean(0, 2));
        due(4000000000000000005L, x.mean(0, 0));
        due(4000000000000000001L, x.balance(1, 0));
        due(4000000000000000002L, x.balance(0, 7));
        dueCounts(x, 2, 2, 0, 0, 1, 0);
    }

    private static void noRefusals() {
        sentence("nothing changes but how many there were):");
        // What answers -9, and what never refuses, is not counted.
        GameTables x = made(false);
        due(-9, x.why());
        due(-9, x.status(5));
        due(-9, x.worse(0, 0));
        due(1, x.times() >= 0 ? 1 : 0);
        due(1, x.balances() > 0 ? 1 : 0);
        due(1, x.turn());
        due(1, x.turn());
        x.game(2, 2);
        weigh(x, 0, 1, 1);
        weigh(x, 1, 1, 1);
        due(-9, x.find());
        due(-9, x.why());
        dueCounts(x, 0, 0, 0, 0, 0, 0);
    }

    private static void countedTogether() {
        sentence("REFUSALS (");
        // All of an object's 512 calls but the last six are refused, of each number in turn.
        GameTables x = new GameTables();
        for (int call = 0; call < 506; call++) {
            switch (call % 5) {
                case 0: due(-1, x.left(7)); break;
                case 1: due(-2, x.corner(0, 0, 0, 9)); break;
                case 2: due(-4, x.weight(0, 0, -7)); break;
                case 3: due(-5, x.is()); break;
                default: due(-6, x.game(9, 9)); break;
            }
        }
        dueCounts(x, 102, 101, 0, 101, 101, 101);
    }
}
