import java.util.ArrayList;
import java.util.List;

/**
 * The document in its plainest words, slow and by another way than the class: big fractions,
 * tables as the document lays them, corners as the points where enough of all bounds are tight.
 */
final class Reference {
    static final int NONE = -9;
    private static final int PAYS = 1000000000;
    private static final long LONGS = 4000000000000000000L;

    private int m = 1;
    private int n = 1;
    private int[][][] pays = new int[2][4][4];
    private int[][] weights = new int[2][4];
    private final int[] refused = new int[7];
    /** Found anew only when the game differs from the one they were found for. */
    private final List<List<Fraction[]>> knownCorners = new ArrayList<>();
    private List<int[]> knownBalances = null;
    private String knownGame = "";

    private int refuse(int number) {
        refused[-number]++;
        return number;
    }

    private int choices(int who) {
        return who == 0 ? m : n;
    }

    private boolean there(int who, int choice) {
        return choice >= 0 && choice < choices(who);
    }

    private boolean isWho(int who) {
        return who >= 0 && who <= 1;
    }

    /** Who's pay for a choice of his own and one of the other's. */
    private int gets(int who, int own, int others) {
        return who == 0 ? pays[0][own][others] : pays[1][others][own];
    }

    int game(int newM, int newN) {
        if (newM < 1 || newN < 1) {
            return refuse(-4);
        }
        if (newM > 4 || newN > 4) {
            return refuse(-6);
        }
        m = newM;
        n = newN;
        pays = new int[2][4][4];
        return 1;
    }

    int pay(int who, int i, int k, int v) {
        if (!isWho(who) || !there(0, i) || !there(1, k)) {
            return PAYS - refuse(-1);
        }
        if (v < -20) {
            return PAYS - refuse(-4);
        }
        if (v > 20) {
            return PAYS - refuse(-6);
        }
        int was = pays[who][i][k];
        pays[who][i][k] = v;
        return was;
    }

    int paid(int who, int i, int k) {
        return isWho(who) && there(0, i) && there(1, k) ? pays[who][i][k] : PAYS - refuse(-1);
    }

    int weight(int who, int choice, int v) {
        if (!isWho(who) || choice < 0 || choice > 3) {
            return refuse(-1);
        }
        if (v < 0) {
            return refuse(-4);
        }
        if (v > 99) {
            return refuse(-6);
        }
        int was = weights[who][choice];
        weights[who][choice] = v;
        return was;
    }

    private Fraction[] trayMix(int who) {
        int sum = 0;
        for (int choice = 0; choice < choices(who); choice++) {
            sum += weights[who][choice];
        }
        if (sum == 0) {
            return null;
        }
        Fraction[] mix = new Fraction[choices(who)];
        for (int choice = 0; choice < mix.length; choice++) {
            mix[choice] = Fraction.of(weights[who][choice]).by(Fraction.of(sum));
        }
        return mix;
    }

    private Fraction meanOf(int who, Fraction[] own, Fraction[] others) {
        Fraction sum = Fraction.ZERO;
        for (int i = 0; i < own.length; i++) {
            for (int k = 0; k < others.length; k++) {
                sum = sum.plus(own[i].times(others[k]).times(Fraction.of(gets(who, i, k))));
            }
        }
        return sum;
    }

    private Fraction[] alone(int who, int choice) {
        Fraction[] mix = new Fraction[choices(who)];
        for (int c = 0; c < mix.length; c++) {
            mix[c] = c == choice ? Fraction.ONE : Fraction.ZERO;
        }
        return mix;
    }

    private int answersTo(int who, Fraction[] others) {
        int bits = 0;
        for (int choice = 0; choice < choices(who); choice++) {
            boolean greatest = true;
            for (int c = 0; c < choices(who); c++) {
                Fraction here = meanOf(who, alone(who, choice), others);
                greatest &= here.compareTo(meanOf(who, alone(who, c), others)) >= 0;
            }
            bits |= greatest ? 1 << choice : 0;
        }
        return bits;
    }

    long mean(int who, int what) {
        if (!isWho(who)) {
            return LONGS - refuse(-1);
        }
        if (what != 0 && what != 1) {
            return LONGS - refuse(-2);
        }
        if (trayMix(0) == null || trayMix(1) == null) {
            return LONGS - refuse(-5);
        }
        return meanOf(who, trayMix(who), trayMix(1 - who)).part(what);
    }

    int answers(int who) {
        if (!isWho(who)) {
            return refuse(-1);
        }
        return trayMix(1 - who) == null ? refuse(-5) : answersTo(who, trayMix(1 - who));
    }

    /** 10 times who, and the first choice that spoils the balance; NONE if nothing does. */
    private int spoiler(Fraction[] rows, Fraction[] columns) {
        for (int i = 0; i < m; i++) {
            if (!rows[i].isZero() && (answersTo(0, columns) >> i & 1) == 0) {
                return i;
            }
        }
        for (int k = 0; k < n; k++) {
            if (!columns[k].isZero() && (answersTo(1, rows) >> k & 1) == 0) {
                return 10 + k;
            }
        }
        return NONE;
    }

    int is() {
        if (trayMix(0) == null || trayMix(1) == null) {
            return refuse(-5);
        }
        return spoiler(trayMix(0), trayMix(1)) == NONE ? 1 : 0;
    }

    int why() {
        return trayMix(0) == null || trayMix(1) == null ? NONE : spoiler(trayMix(0), trayMix(1));
    }

    private int betterThan(int who, int choice, boolean[] ownLeft, boolean[] othersLeft) {
        for (int c = 0; c < choices(who); c++) {
            boolean better = ownLeft[c];
            for (int o = 0; o < choices(1 - who); o++) {
                better &= !othersLeft[o] || gets(who, c, o) > gets(who, choice, o);
            }
            if (better) {
                return c;
            }
        }
        return NONE;
    }

    private static final boolean[] ALL = {true, true, true, true};

    int worse(int who, int choice) {
        if (!isWho(who) || !there(who, choice)) {
            return refuse(-1);
        }
        return betterThan(who, choice, ALL, ALL);
    }

    /** Bits left of ROW's and of COLUMN's choices, and the rounds. */
    private int[] dropped() {
        boolean[][] left = {ALL.clone(), ALL.clone()};
        int rounds = 0;
        boolean more = true;
        while (more) {
            more = false;
            boolean[][] next = {left[0].clone(), left[1].clone()};
            for (int who = 0; who < 2; who++) {
                for (int c = 0; c < choices(who); c++) {
                    if (left[who][c] && betterThan(who, c, left[who], left[1 - who]) != NONE) {
                        next[who][c] = false;
                        more = true;
                    }
                }
            }
            rounds += more ? 1 : 0;
            left = next;
        }
        int[] told = {0, 0, rounds};
        for (int who = 0; who < 2; who++) {
            for (int c = 0; c < choices(who); c++) {
                told[who] += left[who][c] ? 1 << c : 0;
            }
        }
        return told;
    }

    int left(int who) {
        return isWho(who) ? dropped()[who] : refuse(-1);
    }

    int times() {
        return dropped()[2];
    }

    int sure(int who) {
        if (!isWho(who)) {
            return PAYS - refuse(-1);
        }
        int most = -100;
        for (int own = 0; own < choices(who); own++) {
            int least = 100;
            for (int o = 0; o < choices(1 - who); o++) {
                least = Math.min(least, gets(who, own, o));
            }
            most = Math.max(most, least);
        }
        return most;
    }

    int hold(int who) {
        if (!isWho(who)) {
            return PAYS - refuse(-1);
        }
        int least = 100;
        for (int o = 0; o < choices(1 - who); o++) {
            int most = -100;
            for (int own = 0; own < choices(who); own++) {
                most = Math.max(most, gets(who, own, o));
            }
            least = Math.min(least, most);
        }
        return least;
    }

    /**
     * The bounds on shares x and a value v: x[i] is 0 or above, and no choice of the other's is
     * worth more than v. Where as many are tight as pin down x and v, and none is broken, a
     * corner may lie.
     */
    private List<Fraction[]> searchCorners(int who) {
        int own = choices(who);
        int bounds = own + choices(1 - who);
        List<Fraction[]> found = new ArrayList<>();
        for (int tight = 0; tight < 1 << bounds; tight++) {
            if (Integer.bitCount(tight) == own) {
                Fraction[] mix = pinned(who, tight);
                if (mix != null && isMix(mix) && isCorner(who, mix) && indexIn(found, mix) == NONE) {
                    found.add(mix);
                }
            }
        }
        found.sort(Reference::order);
        return found;
    }

    private void know() {
        String game = m + " " + n + java.util.Arrays.deepToString(pays);
        if (!game.equals(knownGame)) {
            knownGame = game;
            knownBalances = null;
            knownCorners.clear();
            knownCorners.add(searchCorners(0));
            knownCorners.add(searchCorners(1));
        }
    }

    private List<Fraction[]> cornersOf(int who) {
        know();
        return knownCorners.get(who);
    }

    private Fraction[] pinned(int who, int tight) {
        int own = choices(who);
        List<Fraction[]> lines = new ArrayList<>();
        Fraction[] sum = blank(own + 2);
        for (int i = 0; i < own; i++) {
            sum[i] = Fraction.ONE;
        }
        sum[own + 1] = Fraction.ONE;
        lines.add(sum);
        for (int bound = 0; bound < own + choices(1 - who); bound++) {
            if ((tight >> bound & 1) == 1) {
                lines.add(bound < own ? unusedLine(own, bound) : valueLine(who, bound - own));
            }
        }
        if (reduce(lines, own + 1) < own + 1) {
            return null;
        }
        Fraction[] mix = new Fraction[own];
        for (int i = 0; i < own; i++) {
            mix[i] = lines.get(i)[own + 1];
        }
        return mix;
    }

    private Fraction[] unusedLine(int own, int choice) {
        Fraction[] line = blank(own + 2);
        line[choice] = Fraction.ONE;
        return line;
    }

    private Fraction[] valueLine(int who, int others) {
        int own = choices(who);
        Fraction[] line = blank(own + 2);
        for (int i = 0; i < own; i++) {
            line[i] = Fraction.of(gets(1 - who, others, i));
        }
        line[own] = Fraction.of(-1);
        return line;
    }

    private static Fraction[] blank(int length) {
        Fraction[] line = new Fraction[length];
        java.util.Arrays.fill(line, Fraction.ZERO);
        return line;
    }

    /** Brings the lines to steps over the first columns; the answer is the rank. */
    private static int reduce(List<Fraction[]> lines, int columns) {
        int rank = 0;
        for (int column = 0; column < columns && rank < lines.size(); column++) {
            int pivot = rank;
            while (pivot < lines.size() && lines.get(pivot)[column].isZero()) {
                pivot++;
            }
            if (pivot == lines.size()) {
                continue;
            }
            java.util.Collections.swap(lines, rank, pivot);
            clear(lines, rank, column);
            rank++;
        }
        return rank;
    }

    private static void clear(List<Fraction[]> lines, int rank, int column) {
        Fraction[] top = lines.get(rank);
        Fraction head = top[column];
        for (int c = 0; c < top.length; c++) {
            top[c] = top[c].by(head);
        }
        for (int line = 0; line < lines.size(); line++) {
            if (line != rank) {
                Fraction[] other = lines.get(line);
                Fraction factor = other[column];
                for (int c = 0; c < other.length; c++) {
                    other[c] = other[c].minus(factor.times(top[c]));
                }
            }
        }
    }

    private static boolean isMix(Fraction[] mix) {
        for (Fraction share : mix) {
            if (share.compareTo(Fraction.ZERO) < 0) {
                return false;
            }
        }
        return true;
    }

    /**
     * Nothing may lead from the mix to another that uses no more choices and to which all the
     * answers stay answers: the lines that forbid it must leave no way.
     */
    private boolean isCorner(int who, Fraction[] mix) {
        int own = mix.length;
        int answers = answersTo(1 - who, mix);
        List<Fraction[]> lines = new ArrayList<>();
        Fraction[] sum = blank(own + 1);
        for (int i = 0; i < own; i++) {
            sum[i] = Fraction.ONE;
            if (mix[i].isZero()) {
                Fraction[] line = blank(own + 1);
                line[i] = Fraction.ONE;
                lines.add(line);
            }
        }
        lines.add(sum);
        int first = Integer.numberOfTrailingZeros(answers);
        for (int a = first + 1; a < choices(1 - who); a++) {
            if ((answers >> a & 1) == 1) {
                Fraction[] line = blank(own + 1);
                for (int i = 0; i < own; i++) {
                    line[i] = Fraction.of(gets(1 - who, a, i) - gets(1 - who, first, i));
                }
                lines.add(line);
            }
        }
        return reduce(lines, own) == own;
    }

    private static int order(Fraction[] a, Fraction[] b) {
        for (int i = 0; i < a.length; i++) {
            int order = b[i].compareTo(a[i]);
            if (order != 0) {
                return order;
            }
        }
        return 0;
    }

    private static int indexIn(List<Fraction[]> mixes, Fraction[] mix) {
        for (int c = 0; c < mixes.size(); c++) {
            if (order(mixes.get(c), mix) == 0) {
                return c;
            }
        }
        return NONE;
    }

    int corners(int who) {
        return isWho(who) ? cornersOf(who).size() : refuse(-1);
    }

    int corner(int who, int c, int choice, int what) {
        if (!isWho(who) || !there(who, choice) || c < 0 || c >= cornersOf(who).size()) {
            return refuse(-1);
        }
        if (what < 0 || what > 2) {
            return refuse(-2);
        }
        Fraction[] mix = cornersOf(who).get(c);
        return what == 2 ? answersTo(1 - who, mix) : (int) mix[choice].part(what);
    }

    /** ROW's corner and COLUMN's of each balance. */
    private List<int[]> told() {
        know();
        if (knownBalances == null) {
            knownBalances = searchBalances();
        }
        return knownBalances;
    }

    private List<int[]> searchBalances() {
        List<int[]> pairs = new ArrayList<>();
        List<Fraction[]> rows = cornersOf(0);
        List<Fraction[]> columns = cornersOf(1);
        for (int r = 0; r < rows.size(); r++) {
            for (int c = 0; c < columns.size(); c++) {
                if (spoiler(rows.get(r), columns.get(c)) == NONE) {
                    pairs.add(new int[] {r, c});
                }
            }
        }
        return pairs;
    }

    int balances() {
        return told().size();
    }

    private static int used(Fraction[] mix) {
        int bits = 0;
        for (int i = 0; i < mix.length; i++) {
            bits |= mix[i].isZero() ? 0 : 1 << i;
        }
        return bits;
    }

    private int kind(Fraction[] rows, Fraction[] columns) {
        int r = Integer.bitCount(used(rows));
        int c = Integer.bitCount(used(columns));
        if (r == 1 && c == 1 && answersTo(0, columns) == used(rows) && answersTo(1, rows) == used(columns)) {
            return 4;
        }
        if (r == 1 && c == 1) {
            return 3;
        }
        if (r == m && c == n) {
            return 2;
        }
        return r == c ? 1 : 0;
    }

    long balance(int b, int what) {
        List<int[]> pairs = told();
        if (b < 0 || b >= pairs.size()) {
            return LONGS - refuse(-1);
        }
        if (what < 0 || what > 6) {
            return LONGS - refuse(-2);
        }
        int[] pair = pairs.get(b);
        Fraction[] rows = cornersOf(0).get(pair[0]);
        Fraction[] columns = cornersOf(1).get(pair[1]);
        if (what < 2) {
            return pair[what];
        }
        if (what == 2) {
            return kind(rows, columns);
        }
        return what < 5 ? meanOf(0, rows, columns).part(what - 3) : meanOf(1, columns, rows).part(what - 5);
    }

    int find() {
        if (trayMix(0) == null || trayMix(1) == null) {
            return refuse(-5);
        }
        int r = indexIn(cornersOf(0), trayMix(0));
        int c = indexIn(cornersOf(1), trayMix(1));
        List<int[]> pairs = told();
        for (int b = 0; b < pairs.size(); b++) {
            if (pairs.get(b)[0] == r && pairs.get(b)[1] == c) {
                return b;
            }
        }
        return NONE;
    }

    int turn() {
        int[][][] laid = new int[2][4][4];
        for (int who = 0; who < 2; who++) {
            for (int i = 0; i < 4; i++) {
                for (int k = 0; k < 4; k++) {
                    laid[who][i][k] = pays[1 - who][k][i];
                }
            }
        }
        pays = laid;
        weights = new int[][] {weights[1], weights[0]};
        int oldM = m;
        m = n;
        n = oldM;
        return 1;
    }

    int raise(int who, int choice, int v) {
        if (!isWho(who) || !there(1 - who, choice)) {
            return refuse(-1);
        }
        long least = Long.MAX_VALUE;
        long most = Long.MIN_VALUE;
        for (int own = 0; own < choices(who); own++) {
            least = Math.min(least, (long) gets(who, own, choice) + v);
            most = Math.max(most, (long) gets(who, own, choice) + v);
        }
        if (least < -20) {
            return refuse(-4);
        }
        if (most > 20) {
            return refuse(-6);
        }
        for (int own = 0; own < choices(who); own++) {
            pays[who][who == 0 ? own : choice][who == 0 ? choice : own] += v;
        }
        return 1;
    }

    int scale(int who, int v) {
        if (!isWho(who)) {
            return refuse(-1);
        }
        if (v < 1) {
            return refuse(-4);
        }
        for (int i = 0; i < m; i++) {
            for (int k = 0; k < n; k++) {
                if (Math.abs((long) pays[who][i][k] * v) > 20) {
                    return refuse(-6);
                }
            }
        }
        for (int i = 0; i < m; i++) {
            for (int k = 0; k < n; k++) {
                pays[who][i][k] *= v;
            }
        }
        return 1;
    }

    int status(int what) {
        boolean takes = true;
        boolean alike = m == n;
        for (int i = 0; i < m; i++) {
            for (int k = 0; k < n; k++) {
                takes &= pays[0][i][k] + pays[1][i][k] == 0;
                alike &= m != n || pays[1][i][k] == pays[0][k][i];
            }
        }
        switch (what) {
            case 0: return m;
            case 1: return n;
            case 2: return takes ? 1 : 0;
            case 3: return alike ? 1 : 0;
            case 4: return cornersOf(0).size() + cornersOf(1).size();
            default: return what >= 11 && what <= 16 ? refused[what - 10] : NONE;
        }
    }
}
