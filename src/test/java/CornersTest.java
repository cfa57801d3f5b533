import java.util.ArrayList;
import java.util.Arrays;
import java.util.List;
import java.util.Random;

/** Promises 15 to 19: corners, the balances made of them, and which one the tray is. */
public final class CornersTest extends Checks {
    /**
     * No common denominator of a corner's shares is greater if all pays are 0 or 1: they add up to
     * four determinants, or fewer, of three lines of -1, 0 and 1, and none of these is above 4.
     */
    private static final int WHOLE = 16;

    public static void main(String[] args) {
        cornersFewest();
        cornersMost();
        cornersOfSingleChoices();
        cornersWithManyTies();
        cornersByTheWords();
        cornersFollowThePays();
        cornersFirstAskedForLate();
        cornersRefused();
        cornersNumbered();
        corner();
        cornerGreatDenominators();
        cornerRefused();
        balancesFewest();
        balancesMany();
        balancesNumbered();
        balance();
        balanceMeansFollowThePays();
        balanceGreatMeans();
        balanceRefused();
        kindThatFitsFirst();
        firm();
        pure();
        full();
        alike();
        noneOfThese();
        find();
        findNone();
        findWithoutMixes();
        end();
    }

    private static void cornersFewest() {
        sentence("How many CORNERS WHO has.");
        GameTables x = new GameTables();
        due(1, x.corners(0));
        due(1, x.corners(1));
        for (int m = 1; m <= 4; m++) {
            for (int n = 1; n <= 4; n++) {
                x.game(m, n);
                due(m, x.corners(0));
                due(n, x.corners(1));
            }
        }
        // The other's only choice leaves nothing but the single choices, whatever the pays.
        lay(x, new int[][] {{3}, {-4}, {5}, {5}}, new int[][] {{1}, {2}, {-3}, {20}});
        due(4, x.corners(0));
        due(1, x.corners(1));
    }

    private static void cornersMost() {
        sentence("How many CORNERS WHO has.");
        int[][] rows = {{-16, 8, -5, 4}, {15, 19, 3, -13}, {13, 14, 19, -19}, {-1, 20, 12, 19}};
        int[][] columns = {{-17, 3, 8, 15}, {-2, -19, 17, 1}, {6, 14, -7, 4}, {18, 15, 9, -16}};
        GameTables x = gameOf(rows, columns);
        // No polytope of 4 dimensions with 8 facets has more than 20, and one of them is no mix.
        due(19, x.corners(0));
        due(-1, x.corner(0, 19, 0, 0));
        x.turn();
        due(19, x.corners(1));
        dueAllAsReference(rows, columns);
    }

    private static void cornersOfSingleChoices() {
        sentence("How many CORNERS WHO has.");
        // COLUMN's choices pay alike for both of ROW's: no mix of ROW's two is pinned down.
        GameTables x = gameOf(new int[][] {{1, 0}, {0, 1}}, new int[][] {{3, 3}, {5, 5}});
        due(2, x.corners(0));
        due(3, x.corners(1));
        // The tied worth lies below a third answer: no corner.
        lay(x, new int[][] {{0, 0, 0}, {0, 0, 0}}, new int[][] {{2, 0, 4}, {0, 2, 4}});
        due(2, x.corners(0));
        due(3, x.corners(1));
    }

    private static void cornersWithManyTies() {
        sentence("How many CORNERS WHO has.");
        // Three answers to a mix of two choices: the same corner from each two of them, told once.
        GameTables x = gameOf(new int[][] {{0, 0, 0}, {0, 0, 0}}, new int[][] {{2, 0, 1}, {0, 2, 1}});
        due(3, x.corners(0));
        dueCorner(x, 0, 0, 1, 1, 1, 0, 1);
        dueCorner(x, 0, 1, 7, 1, 2, 1, 2);
        dueCorner(x, 0, 2, 2, 0, 1, 1, 1);
        // Tied at the edge: the tie at ROW's 0 alone is that single choice, no second corner.
        lay(x, new int[][] {{0, 0}, {0, 0}}, new int[][] {{1, 1}, {0, 2}});
        due(2, x.corners(0));
        dueCorner(x, 0, 0, 3, 1, 1, 0, 1);
        dueCorner(x, 0, 1, 2, 0, 1, 1, 1);
    }

    private static void cornersByTheWords() {
        sentence("A MIX of WHO is a CORNER if there is no other MIX of WHO that gives SHARES above 0");
        Random random = new Random(5);
        List<List<int[]>> mixes = List.of(mixesOf(1), mixesOf(2), mixesOf(3), mixesOf(4));
        for (int game = 0; game < 400; game++) {
            int who = game % 2;
            int[][] others = game % 4 < 2 ? anyPays(random) : nearlyOwnPays(random);
            GameTables x = gameOf(new int[others.length][others[0].length], others);
            if (who == 1) {
                x.turn();
            }
            List<int[]> corners = cornersAmong(mixes.get(others.length - 1), others);
            due(corners.size(), x.corners(who));
            for (int c = 0; c < corners.size(); c++) {
                for (int i = 0; i < others.length; i++) {
                    int whole = Arrays.stream(corners.get(c)).sum();
                    due(corners.get(c)[i] * x.corner(who, c, i, 1), whole * x.corner(who, c, i, 0));
                }
            }
        }
    }

    private static int[][] anyPays(Random random) {
        int[][] pays = new int[1 + random.nextInt(4)][1 + random.nextInt(4)];
        for (int[] line : pays) {
            for (int k = 0; k < line.length; k++) {
                line[k] = random.nextInt(2);
            }
        }
        return pays;
    }

    /** Each choice has an answer of its own, but for a few changes, so that all may have shares. */
    private static int[][] nearlyOwnPays(Random random) {
        int[][] pays = new int[4][4];
        for (int i = 0; i < 4; i++) {
            pays[i][i] = 1;
        }
        for (int change = random.nextInt(5); change > 0; change--) {
            pays[random.nextInt(4)][random.nextInt(4)] ^= 1;
        }
        return pays;
    }

    /** All mixes with a common denominator up to WHOLE, those with the greater first shares ahead. */
    private static List<int[]> mixesOf(int choices) {
        List<int[]> mixes = new ArrayList<>();
        int most = WHOLE + 1;
        for (int place = 1; place < most * most * most * most; place++) {
            int[] mix = {place % most, place / most % most, place / most / most % most, place / most / most / most};
            if (Arrays.stream(mix).sum() <= WHOLE && used(mix) < 1 << choices && commonFactor(mix) == 1) {
                mixes.add(mix);
            }
        }
        mixes.sort(CornersTest::greaterShareFirst);
        return mixes;
    }

    private static int commonFactor(int[] mix) {
        int common = 0;
        for (int part : mix) {
            for (int rest = part; rest != 0;) {
                int next = common % rest;
                common = rest;
                rest = next;
            }
        }
        return common;
    }

    private static int greaterShareFirst(int[] a, int[] b) {
        int wholeA = Arrays.stream(a).sum();
        int wholeB = Arrays.stream(b).sum();
        for (int i = 0; i < a.length; i++) {
            if (a[i] * wholeB != b[i] * wholeA) {
                return b[i] * wholeA - a[i] * wholeB;
            }
        }
        return 0;
    }

    /**
     * Word by word. If there is another mix for one, there is one among the corners, for the mixes
     * that the words allow have ends, which are corners; so it is enough to look among mixes that
     * hold all corners there can be.
     */
    private static List<int[]> cornersAmong(List<int[]> mixes, int[][] others) {
        int[] like = new int[256];
        for (int[] mix : mixes) {
            like[16 * used(mix) + answersTo(mix, others)]++;
        }
        List<int[]> corners = new ArrayList<>();
        for (int[] mix : mixes) {
            int used = used(mix);
            int answers = answersTo(mix, others);
            int fitting = 0;
            for (int other = 0; other < 256; other++) {
                boolean usesNoMore = (other / 16 & ~used) == 0;
                boolean keepsAnswers = (answers & ~(other % 16)) == 0;
                fitting += usesNoMore && keepsAnswers ? like[other] : 0;
            }
            if (fitting == 1) {
                corners.add(mix);
            }
        }
        return corners;
    }

    private static int used(int[] mix) {
        int bits = 0;
        for (int i = 0; i < mix.length; i++) {
            bits |= mix[i] > 0 ? 1 << i : 0;
        }
        return bits;
    }

    private static int answersTo(int[] mix, int[][] others) {
        int most = -1;
        int bits = 0;
        for (int k = 0; k < others[0].length; k++) {
            int worth = 0;
            for (int i = 0; i < others.length; i++) {
                worth += mix[i] * others[i][k];
            }
            bits = worth > most ? 1 << k : worth == most ? bits | 1 << k : bits;
            most = Math.max(most, worth);
        }
        return bits;
    }

    private static void cornersFollowThePays() {
        sentence("to no choice to which it gives none, and to which all the other's ANSWERS to it are ANSWERS, too.");
        GameTables x = gameOf(new int[][] {{3, 1}, {0, 2}}, new int[][] {{2, 1}, {0, 3}});
        due(3, x.corners(0));
        due(3, x.corners(1));
        // COLUMN's pays make ROW's corners, ROW's make COLUMN's.
        x.pay(1, 0, 0, 0);
        due(2, x.corners(0));
        due(3, x.corners(1));
        due(-1, x.corner(0, 2, 0, 0));
        x.pay(1, 0, 0, 4);
        due(3, x.corners(0));
        dueCorner(x, 0, 1, 3, 1, 2, 1, 2);
        x.pay(0, 1, 0, 4);
        due(2, x.corners(1));
        x.pay(0, 1, 1, 0);
        due(3, x.corners(1));
        x.pay(0, 1, 1, 1);
        dueCorner(x, 1, 0, 2, 1, 1, 0, 1);
        due(2, x.corners(1));
        // Raising and scaling leave the answers, and so the corners.
        due(1, x.raise(1, 0, 5));
        due(1, x.scale(1, 2));
        due(3, x.corners(0));
        dueCorner(x, 0, 1, 3, 1, 2, 1, 2);
        // A refused call leaves them, too; a new game has its own.
        x.pay(1, 0, 0, 21);
        x.game(5, 2);
        due(3, x.corners(0));
        x.game(2, 2);
        due(2, x.corners(0));
    }

    private static void cornersFirstAskedForLate() {
        sentence("to no choice to which it gives none, and to which all the other's ANSWERS to it are ANSWERS, too.");
        // Whatever the last call ahead of the question was.
        for (int last = 0; last < 6; last++) {
            GameTables x = new GameTables();
            due(1, x.corners(0));
            lay(x, new int[][] {{3, 1}, {0, 2}}, new int[][] {{2, 1}, {0, 3}});
            switch (last) {
                case 0: due(1, x.raise(0, 0, 1)); break;
                case 1: due(1, x.scale(1, 2)); break;
                case 2: due(1, x.turn()); break;
                case 3: due(0, x.weight(0, 0, 1)); break;
                case 4: due(-6, x.raise(0, 0, 40)); break;
                default: due(-6, x.game(5, 5)); break;
            }
            due(3, x.corners(0));
            due(3, x.corners(1));
            due(3, x.balances());
        }
    }

    private static void cornersRefused() {
        sentence("`int corners(int who)`: How many CORNERS WHO has. -1.");
        GameTables x = new GameTables();
        for (int who : new int[] {2, -1, MIN, MAX}) {
            due(-1, x.corners(who));
        }
        dueCounts(x, 4, 0, 0, 0, 0, 0);
    }

    private static void cornersNumbered() {
        sentence("CORNERS of WHO are numbered: the first choice in whose SHARE two differ, the greater SHARE first.");
        GameTables x = new GameTables();
        x.game(3, 4);
        for (int c = 0; c < 4; c++) {
            for (int choice = 0; choice < 4; choice++) {
                due(c == choice ? 1 : 0, x.corner(1, c, choice, 0));
                due(1, x.corner(1, c, choice, 1));
            }
        }
        // 1, 2/3 and 1/3 of choice 0, where choice 1 decides, then those without it by choice 1.
        lay(x, new int[3][3], new int[][] {{0, 2, 1}, {1, 0, 2}, {2, 1, 0}});
        due(7, x.corners(0));
        dueCorner(x, 0, 0, 2, 1, 1, 0, 1, 0, 1);
        dueCorner(x, 0, 1, 6, 2, 3, 1, 3, 0, 1);
        dueCorner(x, 0, 2, 7, 1, 3, 1, 3, 1, 3);
        dueCorner(x, 0, 3, 3, 1, 3, 0, 1, 2, 3);
        dueCorner(x, 0, 4, 4, 0, 1, 1, 1, 0, 1);
        dueCorner(x, 0, 5, 5, 0, 1, 2, 3, 1, 3);
        dueCorner(x, 0, 6, 1, 0, 1, 0, 1, 1, 1);
    }

    private static void corner() {
        sentence("SHARE of a choice in CORNER c of WHO: numerator (0), denominator (1); the other's ANSWERS to it as bits (2).");
        GameTables x = gameOf(new int[][] {{3, 1}, {0, 2}}, new int[][] {{2, 1}, {0, 3}});
        dueCorner(x, 0, 0, 1, 1, 1, 0, 1);
        dueCorner(x, 0, 1, 3, 3, 4, 1, 4);
        dueCorner(x, 0, 2, 2, 0, 1, 1, 1);
        dueCorner(x, 1, 0, 1, 1, 1, 0, 1);
        dueCorner(x, 1, 1, 3, 1, 4, 3, 4);
        dueCorner(x, 1, 2, 2, 0, 1, 1, 1);
        x.game(1, 4);
        dueCorner(x, 0, 0, 15, 1, 1);
        dueCorner(x, 1, 3, 1, 0, 1, 0, 1, 0, 1, 1, 1);
        x.pay(1, 0, 2, 1);
        dueCorner(x, 0, 0, 4, 1, 1);
    }

    private static void cornerGreatDenominators() {
        sentence("SHARE of a choice in CORNER c of WHO: numerator (0), denominator (1); the other's ANSWERS to it as bits (2).");
        int[][] rows = {{18, 18, -18, 19}, {20, -20, 20, 20}, {-19, -20, 19, 20}, {-19, 20, -18, -18}};
        int[][] columns = {{-20, 20, 18, 20}, {20, 19, -19, -20}, {19, -20, 20, -20}, {20, -18, -19, 20}};
        GameTables x = gameOf(rows, columns);
        long greatest = 0;
        for (int i = 0; i < 4; i++) {
            greatest = Math.max(greatest, x.corner(0, 2, i, 1));
        }
        due(298191, greatest);
        dueAllAsReference(rows, columns);
        dueAllAsReference(
            new int[4][4], new int[][] {{20, -20, -19, -17}, {-20, 20, -18, -20}, {-17, -20, 20, -19}, {-20, -18, -20, 20}});
    }

    private static void cornerRefused() {
        sentence("the other's ANSWERS to it as bits (2). -1; -2.");
        GameTables x = gameOf(new int[][] {{3, 1}, {0, 2}, {-9, -9}}, new int[][] {{2, 1}, {0, 3}, {0, 1}});
        int count = x.corners(1);
        due(3, count);
        for (int who : new int[] {2, -1, MIN, MAX}) {
            due(-1, x.corner(who, 0, 0, 0));
            due(-1, x.corner(who, 0, 0, 3));
        }
        for (int c : new int[] {count, count + 1, 68, 69, 70, -1, MIN, MAX}) {
            due(-1, x.corner(1, c, 0, 0));
            due(-1, x.corner(1, c, 0, 3));
        }
        // COLUMN has two choices; the third and fourth are not there for any what.
        for (int choice : new int[] {2, 3, 4, -1, MIN, MAX}) {
            for (int what = -1; what <= 3; what++) {
                due(-1, x.corner(1, 0, choice, what));
            }
        }
        for (int what : new int[] {3, -1, MIN, MAX}) {
            due(-2, x.corner(0, 0, 0, what));
            due(-2, x.corner(1, count - 1, 1, what));
        }
        dueCounts(x, 8 + 16 + 30, 8, 0, 0, 0, 0);
    }

    private static void balancesFewest() {
        sentence("How many BALANCES are told.");
        GameTables x = new GameTables();
        due(1, x.balances());
        lay(x, new int[][] {{1, -1}, {-1, 1}}, new int[][] {{-1, 1}, {1, -1}});
        due(1, x.balances());
        lay(x, new int[][] {{3, 0}, {5, 1}}, new int[][] {{3, 5}, {0, 1}});
        due(1, x.balances());
        dueBalance(x, 0, 1, 1, 4, 1, 1, 1, 1);
    }

    private static void balancesMany() {
        sentence("How many BALANCES are told.");
        GameTables x = new GameTables();
        x.game(4, 4);
        due(16, x.balances());
        for (int i = 0; i < 4; i++) {
            x.pay(0, i, i, 1);
            x.pay(1, i, i, 1);
        }
        due(15, x.balances());
        int[][] rows = {{-1, -1, 1, 0}, {0, 0, -1, 1}, {-1, -1, 1, 0}, {0, 0, -1, 1}};
        int[][] columns = {{-1, 0, -1, -1}, {1, 0, 0, 0}, {-1, -1, 0, 0}, {-1, -1, 0, 0}};
        lay(x, rows, columns);
        due(22, x.balances());
        due(LONGS + 1, x.balance(22, 0));
        dueAllAsReference(rows, columns);
    }

    private static void balancesNumbered() {
        sentence("BALANCES that are told are those of two CORNERS, numbered by ROW's CORNER, then COLUMN's.");
        GameTables x = new GameTables();
        x.game(2, 3);
        for (int b = 0; b < 6; b++) {
            dueBalance(x, b, b / 3, b % 3, 3, 0, 1, 0, 1);
        }
        // Those that are no balances have no numbers.
        x.pay(1, 0, 1, 1);
        due(4, x.balances());
        dueBalance(x, 0, 0, 1, 3, 0, 1, 1, 1);
        dueBalance(x, 1, 1, 0);
        dueBalance(x, 2, 1, 1);
        dueBalance(x, 3, 1, 2);
    }

    private static void balance() {
        sentence("Of a BALANCE: 0 ROW's CORNER, 1 COLUMN's, 2 KIND, 3, 4 MEAN of ROW, numerator and denominator, 5, 6 of COLUMN.");
        GameTables x = gameOf(new int[][] {{3, 1}, {0, 2}}, new int[][] {{2, 1}, {0, 3}});
        dueBalance(x, 0, 0, 0, 4, 3, 1, 2, 1);
        dueBalance(x, 1, 1, 1, 2, 3, 2, 3, 2);
        dueBalance(x, 2, 2, 2, 4, 2, 1, 3, 1);
        lay(x, new int[][] {{-7, -7}, {-7, -7}}, new int[][] {{-1, -1}, {-2, -2}});
        due(4, x.balances());
        dueBalance(x, 1, 0, 1, 3, -7, 1, -1, 1);
        dueBalance(x, 2, 1, 0, 3, -7, 1, -2, 1);
    }

    private static void balanceMeansFollowThePays() {
        sentence("Of a BALANCE: 0 ROW's CORNER, 1 COLUMN's, 2 KIND, 3, 4 MEAN of ROW, numerator and denominator, 5, 6 of COLUMN.");
        GameTables x = gameOf(new int[][] {{3, 1}, {0, 2}}, new int[][] {{2, 1}, {0, 3}});
        dueBalance(x, 1, 1, 1, 2, 3, 2, 3, 2);
        // ROW's raised by 2 where COLUMN has a share of 1/4, then COLUMN's multiplied by 5.
        x.raise(0, 0, 2);
        dueBalance(x, 1, 1, 1, 2, 2, 1, 3, 2);
        x.scale(1, 5);
        dueBalance(x, 1, 1, 1, 2, 2, 1, 15, 2);
        x.turn();
        dueBalance(x, 1, 1, 1, 2, 15, 2, 2, 1);
    }

    private static void balanceGreatMeans() {
        sentence("Of a BALANCE: 0 ROW's CORNER, 1 COLUMN's, 2 KIND, 3, 4 MEAN of ROW, numerator and denominator, 5, 6 of COLUMN.");
        int[][] rows = {{19, -20, -18, -18}, {-20, 19, 19, -20}, {-20, 20, -20, 19}, {-20, -19, 20, 19}};
        int[][] columns = {{-18, 20, 19, 19}, {19, -20, -19, -18}, {-20, 19, -19, -19}, {-18, 19, 20, -20}};
        due(292073, gameOf(rows, columns).balance(0, 4));
        dueAllAsReference(rows, columns);
        dueAllAsReference(
            new int[][] {{18, -20, -19, -20}, {-20, 19, -18, -20}, {-20, -20, 19, -19}, {-19, -18, -19, 20}},
            new int[][] {{-20, 18, 19, -20}, {19, -18, -19, 19}, {-19, -19, -20, 20}, {19, -19, -18, 19}});
    }

    private static void balanceRefused() {
        sentence("Refused as told: -1; -2.");
        GameTables x = gameOf(new int[][] {{3, 1}, {0, 2}}, new int[][] {{2, 1}, {0, 3}});
        for (int b : new int[] {3, 4, -1, -9, MIN, MAX}) {
            due(LONGS + 1, x.balance(b, 0));
            due(LONGS + 1, x.balance(b, 7));
        }
        for (int what : new int[] {7, 8, -1, MIN, MAX}) {
            due(LONGS + 2, x.balance(0, what));
            due(LONGS + 2, x.balance(2, what));
        }
        dueCounts(x, 12, 10, 0, 0, 0, 0);
    }

    private static void kindThatFitsFirst() {
        sentence("KIND, the first that fits:");
        // Of one choice each all kinds fit.
        due(4, new GameTables().balance(0, 2));
        // Two single choices that are not the only answers: 3, 1 and 0 fit.
        GameTables x = new GameTables();
        x.game(2, 2);
        due(3, x.balance(0, 2));
        // All of two choices each: 2, 1 and 0 fit.
        lay(x, new int[][] {{1, -1}, {-1, 1}}, new int[][] {{-1, 1}, {1, -1}});
        due(2, x.balance(0, 2));
        // Two of three choices each: 1 and 0 fit.
        lay(x,
            new int[][] {{1, -1, 9}, {-1, 1, 9}, {-9, -9, 8}},
            new int[][] {{-1, 1, -9}, {1, -1, -9}, {9, 9, 8}});
        due(1, x.balances());
        due(1, x.balance(0, 2));
        // One against two: 0 alone fits.
        lay(x, new int[][] {{1, 0}, {0, 1}}, new int[][] {{0, 0}, {0, 1}});
        due(0, x.balance(1, 2));
    }

    private static void firm() {
        sentence("4 FIRM: each MIX is one choice, and the only ANSWER to the other's.");
        GameTables x = new GameTables();
        // Ahead of FULL and ALIKE, which fit, too.
        due(4, x.balance(0, 2));
        lay(x, new int[][] {{1, 0}, {0, 0}}, new int[][] {{1, 0}, {0, 0}});
        due(2, x.balances());
        due(4, x.balance(0, 2));
        due(3, x.balance(1, 2));
    }

    private static void pure() {
        sentence("3 PURE: each MIX is one choice.");
        // ROW's is not the only answer, COLUMN's is.
        GameTables x = gameOf(new int[][] {{1, 0}, {1, 0}}, new int[][] {{1, 0}, {1, 0}});
        due(2, x.balances());
        due(3, x.balance(0, 2));
        due(3, x.balance(1, 2));
        // COLUMN's is not the only answer, ROW's is.
        x.turn();
        due(2, x.balances());
        due(3, x.balance(0, 2));
        due(3, x.balance(1, 2));
        // Ahead of ALIKE.
        x.game(2, 2);
        due(4, x.balances());
        due(3, x.balance(3, 2));
        // And where the other has one choice in all.
        x.game(2, 1);
        due(3, x.balance(0, 2));
        due(3, x.balance(1, 2));
    }

    private static void full() {
        sentence("2 FULL: all SHARES of both are above 0.");
        GameTables x = gameOf(new int[][] {{1, -1}, {-1, 1}}, new int[][] {{-1, 1}, {1, -1}});
        due(1, x.balances());
        due(2, x.balance(0, 2));
        x.game(4, 4);
        for (int i = 0; i < 4; i++) {
            x.pay(0, i, i, 1);
            x.pay(1, i, (i + 1) % 4, 1);
        }
        int count = x.balances();
        int fulls = 0;
        for (int b = 0; b < count; b++) {
            fulls += x.balance(b, 2) == 2 ? 1 : 0;
        }
        due(1, fulls);
    }

    private static void alike() {
        sentence("1 ALIKE: both have as many SHARES above 0.");
        // Two choices each: of three of ROW's, of three of COLUMN's, of three of both.
        GameTables x = gameOf(new int[][] {{1, -1}, {-1, 1}, {-5, -5}}, new int[][] {{-1, 1}, {1, -1}, {0, 0}});
        due(1, x.balances());
        due(1, x.balance(0, 2));
        x.turn();
        due(1, x.balances());
        due(1, x.balance(0, 2));
        lay(x,
            new int[][] {{1, -1, -5}, {-1, 1, -5}, {-5, -5, -5}},
            new int[][] {{-1, 1, -5}, {1, -1, -5}, {-5, -5, -6}});
        due(1, x.balances());
        due(1, x.balance(0, 2));
    }

    private static void noneOfThese() {
        sentence("0 BALANCE.");
        // ROW's 0 leaves COLUMN two answers, whose even mix leaves ROW both.
        GameTables x = gameOf(new int[][] {{1, 0}, {0, 1}}, new int[][] {{0, 0}, {0, 1}});
        due(3, x.balances());
        dueBalance(x, 0, 0, 0, 3);
        dueBalance(x, 1, 0, 1, 0, 1, 2, 0, 1);
        dueBalance(x, 2, 1, 2, 4);
        x.turn();
        dueBalance(x, 0, 0, 0, 3);
        dueBalance(x, 1, 1, 0, 0, 0, 1, 1, 2);
        dueBalance(x, 2, 2, 1, 4);
    }

    private static void find() {
        sentence("The BALANCE that the MIXES of the TRAY are; -9 if they are none that is told.");
        GameTables x = gameOf(new int[][] {{3, 1}, {0, 2}}, new int[][] {{2, 1}, {0, 3}});
        // Any multiple of the shares, and any weights of choices that are not there.
        weigh(x, 0, 99, 33, 7, 7);
        weigh(x, 1, 2, 6, 0, 99);
        due(1, x.find());
        weigh(x, 0, 0, 50);
        weigh(x, 1, 0, 1);
        due(2, x.find());
        weigh(x, 0, 99, 0);
        weigh(x, 1, 1, 0);
        due(0, x.find());
        x.game(2, 2);
        weigh(x, 0, 0, 1);
        due(2, x.find());
        weigh(x, 1, 0, 1);
        due(3, x.find());
        weigh(x, 0, 1, 0);
        due(1, x.find());
        dueCounts(x, 0, 0, 0, 0, 0, 0);
    }

    private static void findNone() {
        sentence("The BALANCE that the MIXES of the TRAY are; -9 if they are none that is told.");
        GameTables x = gameOf(new int[][] {{3, 1}, {0, 2}}, new int[][] {{2, 1}, {0, 3}});
        // Near a balance; corners that are no balance.
        weigh(x, 0, 3, 1);
        weigh(x, 1, 33, 98);
        due(-9, x.find());
        weigh(x, 0, 74, 25);
        weigh(x, 1, 1, 3);
        due(-9, x.find());
        weigh(x, 0, 1, 0);
        weigh(x, 1, 0, 1);
        due(0, x.is());
        due(-9, x.find());
        // Balances, but not of two corners.
        x.game(2, 2);
        weigh(x, 0, 1, 1);
        due(1, x.is());
        due(-9, x.find());
        weigh(x, 0, 1, 0);
        weigh(x, 1, 1, 1);
        due(1, x.is());
        due(-9, x.find());
        dueCounts(x, 0, 0, 0, 0, 0, 0);
    }

    private static void findWithoutMixes() {
        sentence("-9 if they are none that is told. -5.");
        GameTables x = new GameTables();
        due(-5, x.find());
        x.weight(0, 0, 1);
        due(-5, x.find());
        x.weight(0, 0, 0);
        x.weight(1, 0, 1);
        due(-5, x.find());
        x.weight(0, 1, 1);
        due(-5, x.find());
        x.weight(0, 0, 1);
        due(0, x.find());
        dueCounts(x, 0, 0, 0, 0, 4, 0);
    }

    /** All corners and balances, each with its own object, for an object has 512 calls. */
    private static void dueAllAsReference(int[][] rows, int[][] columns) {
        Reference reference = new Reference();
        reference.game(rows.length, rows[0].length);
        for (int i = 0; i < rows.length; i++) {
            for (int k = 0; k < rows[0].length; k++) {
                reference.pay(0, i, k, rows[i][k]);
                reference.pay(1, i, k, columns[i][k]);
            }
        }
        for (int who = 0; who < 2; who++) {
            GameTables x = gameOf(rows, columns);
            due(reference.corners(who), x.corners(who));
            for (int c = 0; c < reference.corners(who); c++) {
                for (int place = 0; place < 3 * reference.status(who); place++) {
                    due(reference.corner(who, c, place / 3, place % 3), x.corner(who, c, place / 3, place % 3));
                }
            }
        }
        GameTables x = gameOf(rows, columns);
        due(reference.balances(), x.balances());
        for (int place = 0; place < 7 * reference.balances(); place++) {
            due(reference.balance(place / 7, place % 7), x.balance(place / 7, place % 7));
        }
    }
}
