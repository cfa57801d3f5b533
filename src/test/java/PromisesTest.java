/** Each promise of the document by itself: ordinary inputs, edges and wrong inputs. */
public final class PromisesTest {
    private static final int MIN = Integer.MIN_VALUE;
    private static final int MAX = Integer.MAX_VALUE;
    private static final int PAYS = 1000000000;
    private static final long LONGS = 4000000000000000000L;

    private static int wrong = 0;
    private static int promise = 0;
    private static int call = 0;

    public static void main(String[] args) {
        newObject();
        game();
        payAndPaid();
        weight();
        mean();
        answers();
        isAndWhy();
        worse();
        leftAndTimes();
        sureAndHold();
        corners();
        cornersWithTies();
        balances();
        kinds();
        find();
        turn();
        raise();
        scale();
        status();
        refusalsChangeNothing();
        fiveHundredCalls();
        if (wrong > 0) {
            System.exit(1);
        }
    }

    private static void promise(int number) {
        promise = number;
        call = 0;
    }

    private static void due(long want, long got) {
        call++;
        if (got != want) {
            wrong++;
            System.out.println("promise " + promise + ", call " + call + " answered " + got + ", due is " + want);
        }
    }

    /** A game by ROW's pays and COLUMN's, both a line for each choice of ROW's. */
    private static GameTables gameOf(int[][] rows, int[][] columns) {
        GameTables x = new GameTables();
        lay(x, rows, columns);
        return x;
    }

    private static void lay(GameTables x, int[][] rows, int[][] columns) {
        x.game(rows.length, rows[0].length);
        for (int i = 0; i < rows.length; i++) {
            for (int k = 0; k < rows[0].length; k++) {
                x.pay(0, i, k, rows[i][k]);
                x.pay(1, i, k, columns[i][k]);
            }
        }
    }

    private static void weigh(GameTables x, int who, int... weights) {
        for (int choice = 0; choice < weights.length; choice++) {
            x.weight(who, choice, weights[choice]);
        }
    }

    private static void dueCorner(GameTables x, int who, int c, int answers, int... shares) {
        for (int choice = 0; choice < shares.length / 2; choice++) {
            due(shares[2 * choice], x.corner(who, c, choice, 0));
            due(shares[2 * choice + 1], x.corner(who, c, choice, 1));
            due(answers, x.corner(who, c, choice, 2));
        }
    }

    private static void dueBalance(GameTables x, int b, long... parts) {
        for (int what = 0; what < parts.length; what++) {
            due(parts[what], x.balance(b, what));
        }
    }

    private static void newObject() {
        promise(1);
        GameTables x = new GameTables();
        due(1, x.status(0));
        due(1, x.status(1));
        due(1, x.status(2));
        due(1, x.status(3));
        due(2, x.status(4));
        due(0, x.paid(0, 0, 0));
        due(0, x.paid(1, 0, 0));
        due(1, x.corners(0));
        due(1, x.corners(1));
        due(1, x.balances());
        dueBalance(x, 0, 0, 0, 4, 0, 1, 0, 1);
        due(-9, x.why());
        for (int choice = 0; choice < 4; choice++) {
            due(0, x.weight(0, choice, 0));
            due(0, x.weight(1, choice, 0));
        }
        for (int what = 11; what <= 16; what++) {
            due(0, x.status(what));
        }
    }

    private static void game() {
        promise(2);
        GameTables x = new GameTables();
        due(1, x.game(2, 3));
        due(2, x.status(0));
        due(3, x.status(1));
        x.pay(0, 1, 2, 7);
        x.pay(1, 1, 2, -7);
        x.weight(0, 3, 5);
        x.weight(1, 0, 6);
        due(-4, x.game(0, 3));
        due(-4, x.game(3, 0));
        due(-4, x.game(0, 5));
        due(-4, x.game(5, 0));
        due(-4, x.game(MIN, MAX));
        due(-6, x.game(5, 4));
        due(-6, x.game(4, 5));
        due(-6, x.game(MAX, MAX));
        due(2, x.status(0));
        due(3, x.status(1));
        due(7, x.paid(0, 1, 2));
        due(1, x.game(2, 3));
        due(0, x.paid(0, 1, 2));
        due(0, x.paid(1, 1, 2));
        due(5, x.weight(0, 3, 0));
        due(6, x.weight(1, 0, 0));
        due(1, x.game(4, 4));
        x.pay(0, 3, 3, 1);
        due(1, x.game(1, 4));
        due(1, x.game(4, 4));
        due(0, x.paid(0, 3, 3));
        due(8, x.status(4));
        due(1, x.game(4, 1));
        due(5, x.status(4));
    }

    private static void payAndPaid() {
        promise(3);
        GameTables x = new GameTables();
        x.game(2, 3);
        due(0, x.pay(0, 1, 2, 20));
        due(20, x.pay(0, 1, 2, -20));
        due(-20, x.pay(0, 1, 2, 5));
        due(0, x.pay(1, 1, 2, -3));
        due(PAYS + 1, x.pay(2, 0, 0, 0));
        due(PAYS + 1, x.pay(-1, 0, 0, 0));
        due(PAYS + 1, x.pay(1, 2, 1, 0));
        due(PAYS + 1, x.pay(1, 1, 3, 0));
        due(PAYS + 1, x.pay(0, -1, 0, 21));
        due(PAYS + 1, x.pay(0, 0, MIN, -21));
        due(PAYS + 1, x.pay(0, MAX, 0, MAX));
        due(PAYS + 4, x.pay(0, 1, 2, -21));
        due(PAYS + 4, x.pay(0, 1, 2, MIN));
        due(PAYS + 6, x.pay(0, 1, 2, 21));
        due(PAYS + 6, x.pay(0, 1, 2, MAX));
        promise(4);
        due(5, x.paid(0, 1, 2));
        due(-3, x.paid(1, 1, 2));
        due(0, x.paid(1, 0, 2));
        due(PAYS + 1, x.paid(2, 0, 0));
        due(PAYS + 1, x.paid(0, 2, 0));
        due(PAYS + 1, x.paid(0, 0, 3));
        due(PAYS + 1, x.paid(1, 2, 0));
        due(PAYS + 1, x.paid(MIN, MIN, MIN));
    }

    private static void weight() {
        promise(5);
        GameTables x = new GameTables();
        due(0, x.weight(0, 3, 99));
        due(99, x.weight(0, 3, 0));
        due(0, x.weight(1, 3, 7));
        due(7, x.weight(1, 3, 7));
        due(-1, x.weight(2, 0, 0));
        due(-1, x.weight(-1, 0, 0));
        due(-1, x.weight(0, 4, -1));
        due(-1, x.weight(0, -1, 100));
        due(-4, x.weight(1, 3, -1));
        due(-4, x.weight(1, 3, MIN));
        due(-6, x.weight(1, 3, 100));
        due(-6, x.weight(1, 3, MAX));
        due(7, x.weight(1, 3, 0));
    }

    private static void mean() {
        promise(6);
        GameTables x = gameOf(new int[][] {{3, -1, 0}, {-2, 4, 0}}, new int[][] {{-20, 2, 1}, {0, -6, 1}});
        due(LONGS + 5, x.mean(0, 0));
        weigh(x, 0, 1, 2, 50, 50);
        due(LONGS + 5, x.mean(1, 1));
        weigh(x, 1, 0, 0, 0, 9);
        due(LONGS + 5, x.mean(0, 0));
        weigh(x, 1, 3, 1, 0, 9);
        // ROW: (3*3 - 1 + 2 * (-2*3 + 4)) / 12; COLUMN: (-60 + 2 + 2 * -6) / 12.
        due(1, x.mean(0, 0));
        due(3, x.mean(0, 1));
        due(-35, x.mean(1, 0));
        due(6, x.mean(1, 1));
        weigh(x, 1, 0, 0, 5);
        due(0, x.mean(0, 0));
        due(1, x.mean(0, 1));
        due(1, x.mean(1, 0));
        due(1, x.mean(1, 1));
        due(LONGS + 1, x.mean(2, 0));
        due(LONGS + 1, x.mean(-1, 9));
        due(LONGS + 2, x.mean(0, 2));
        due(LONGS + 2, x.mean(0, -1));
        weigh(x, 1, 0, 0, 0);
        due(LONGS + 2, x.mean(0, 2));
        due(LONGS + 5, x.mean(0, 1));
    }

    private static void answers() {
        promise(7);
        GameTables x = gameOf(new int[][] {{2, 0}, {0, 2}, {1, 1}}, new int[][] {{0, 1}, {5, 5}, {-3, -4}});
        due(-5, x.answers(0));
        weigh(x, 1, 1, 1);
        due(7, x.answers(0));
        due(-5, x.answers(1));
        weigh(x, 1, 2, 1);
        due(1, x.answers(0));
        weigh(x, 1, 0, 0, 9, 9);
        due(-5, x.answers(0));
        weigh(x, 0, 0, 1, 0);
        due(3, x.answers(1));
        weigh(x, 0, 1, 0, 0);
        due(2, x.answers(1));
        weigh(x, 0, 0, 0, 4);
        due(1, x.answers(1));
        due(-1, x.answers(2));
        due(-1, x.answers(MIN));
    }

    private static void isAndWhy() {
        promise(8);
        GameTables x = gameOf(new int[][] {{1, -1}, {-1, 1}}, new int[][] {{-1, 1}, {1, -1}});
        due(-5, x.is());
        due(-9, x.why());
        weigh(x, 0, 1, 1);
        due(-5, x.is());
        due(-9, x.why());
        weigh(x, 1, 7, 7);
        due(1, x.is());
        promise(9);
        due(-9, x.why());
        weigh(x, 0, 1, 2);
        due(0, x.is());
        // ROW's choices are all answers; COLUMN's 1 is worth less than 0.
        due(11, x.why());
        weigh(x, 1, 3, 7);
        due(0, x.why());
        weigh(x, 0, 0, 2);
        due(11, x.why());
        weigh(x, 1, 3, 0);
        due(1, x.why());
        weigh(x, 0, 1, 0);
        due(10, x.why());
        due(0, x.is());
        due(2, x.status(15));
    }

    private static void worse() {
        promise(10);
        GameTables x = gameOf(new int[][] {{1, 2}, {2, 3}, {3, 4}, {3, 5}}, new int[][] {{0, 1}, {0, 1}, {0, 1}, {0, 0}});
        due(1, x.worse(0, 0));
        due(2, x.worse(0, 1));
        // As much against one choice is not more against each.
        due(-9, x.worse(0, 2));
        due(-9, x.worse(0, 3));
        due(-9, x.worse(1, 0));
        x.pay(1, 3, 1, 1);
        due(1, x.worse(1, 0));
        due(-9, x.worse(1, 1));
        due(-1, x.worse(1, 2));
        due(-1, x.worse(0, 4));
        due(-1, x.worse(0, -1));
        due(-1, x.worse(2, 0));
        due(4, x.status(11));
    }

    private static void leftAndTimes() {
        // ROW's 2 goes, then COLUMN's 2, then ROW's 1, then COLUMN's 1.
        promise(11);
        GameTables x = gameOf(
            new int[][] {{3, 2, 0}, {1, 1, 5}, {0, 0, -1}},
            new int[][] {{4, 3, 0}, {1, 3, 2}, {0, 0, 9}});
        due(1, x.left(0));
        due(1, x.left(1));
        due(-1, x.left(2));
        due(-1, x.left(-1));
        promise(12);
        due(4, x.times());
        // Both lose one at once: one round.
        lay(x, new int[][] {{3, 0}, {5, 1}}, new int[][] {{3, 5}, {0, 1}});
        due(1, x.times());
        due(2, x.left(0));
        due(2, x.left(1));
        // Two of one at once: one round.
        lay(x, new int[][] {{1}, {3}, {2}, {3}}, new int[][] {{0}, {0}, {0}, {0}});
        due(1, x.times());
        due(10, x.left(0));
        due(1, x.left(1));
        x.game(4, 4);
        due(0, x.times());
        due(15, x.left(0));
        // As many rounds as there can be: ROW's 3, COLUMN's 3, ROW's 2 and so on, one by one.
        lay(x,
            new int[][] {{0, 10, 0, 0}, {-1, -1, 10, -1}, {-2, -2, -2, 10}, {-3, -3, -3, -3}},
            new int[][] {{10, -1, -2, -3}, {0, 10, -2, -3}, {0, -1, 10, -3}, {0, -1, -2, 10}});
        due(6, x.times());
        due(1, x.left(0));
        due(1, x.left(1));
    }

    private static void sureAndHold() {
        promise(13);
        GameTables x = gameOf(new int[][] {{5, -3, 2}, {1, 0, -1}}, new int[][] {{-20, 4, 1}, {7, -2, 2}});
        due(-1, x.sure(0));
        due(1, x.sure(1));
        due(PAYS + 1, x.sure(2));
        due(PAYS + 1, x.sure(-1));
        promise(14);
        due(0, x.hold(0));
        due(4, x.hold(1));
        due(PAYS + 1, x.hold(2));
        due(PAYS + 1, x.hold(MIN));
        due(4, x.status(11));
        lay(x, new int[][] {{-20, -20}}, new int[][] {{20, 20}});
        due(-20, x.sure(0));
        due(-20, x.hold(0));
        due(20, x.sure(1));
        due(20, x.hold(1));
    }

    private static void corners() {
        promise(15);
        GameTables x = gameOf(new int[][] {{3, 1}, {0, 2}}, new int[][] {{2, 1}, {0, 3}});
        due(3, x.corners(0));
        due(3, x.corners(1));
        due(-1, x.corners(2));
        due(-1, x.corners(-1));
        promise(16);
        dueCorner(x, 0, 0, 1, 1, 1, 0, 1);
        dueCorner(x, 0, 1, 3, 3, 4, 1, 4);
        dueCorner(x, 0, 2, 2, 0, 1, 1, 1);
        dueCorner(x, 1, 1, 3, 1, 4, 3, 4);
        due(-1, x.corner(2, 0, 0, 0));
        due(-1, x.corner(-1, 0, 0, 0));
        due(-1, x.corner(0, 3, 0, 0));
        due(-1, x.corner(0, -1, 0, 0));
        due(-1, x.corner(0, MAX, 0, 0));
        due(-1, x.corner(0, 0, 2, 0));
        due(-1, x.corner(0, 0, 2, 2));
        due(-1, x.corner(0, 0, -1, 9));
        due(-2, x.corner(0, 0, 0, 3));
        due(-2, x.corner(0, 0, 0, -1));
        // What pays change is seen at once, on the other's side.
        x.pay(1, 0, 0, 0);
        due(2, x.corners(0));
        due(3, x.corners(1));
        due(-1, x.corner(0, 2, 0, 0));
    }

    private static void cornersWithTies() {
        promise(15);
        GameTables x = new GameTables();
        x.game(3, 4);
        due(3, x.corners(0));
        due(4, x.corners(1));
        dueCorner(x, 1, 2, 7, 0, 1, 0, 1, 1, 1, 0, 1);
        x.game(1, 4);
        due(1, x.corners(0));
        due(4, x.corners(1));
        x.pay(1, 0, 2, 1);
        dueCorner(x, 0, 0, 4, 1, 1);
        // Three answers to a mix of two choices: the same corner from each two of them, told once.
        lay(x, new int[][] {{0, 0, 0}, {0, 0, 0}}, new int[][] {{2, 0, 1}, {0, 2, 1}});
        promise(16);
        due(3, x.corners(0));
        dueCorner(x, 0, 1, 7, 1, 2, 1, 2);
        // COLUMN's two choices pay alike for both of ROW's: no mix of ROW's two is pinned down.
        lay(x, new int[][] {{1, 0}, {0, 1}}, new int[][] {{3, 3}, {5, 5}});
        due(2, x.corners(0));
        due(3, x.corners(1));
        // The tied worth lies below a third answer: no corner.
        lay(x, new int[][] {{0, 0, 0}, {0, 0, 0}}, new int[][] {{2, 0, 4}, {0, 2, 4}});
        due(2, x.corners(0));
        // Greatest determinants: shares with great denominators stay exact.
        lay(x, new int[4][4], new int[][] {
            {20, -20, -19, -17}, {-20, 20, -18, -20}, {-17, -20, 20, -19}, {-20, -18, -20, 20}});
        due(15, x.corners(0));
        Fraction sum = Fraction.ZERO;
        int full = -1;
        for (int c = 0; c < 15; c++) {
            full = x.corner(0, c, 0, 2) == 15 ? c : full;
        }
        Fraction[] worth = {Fraction.ZERO, Fraction.ZERO, Fraction.ZERO, Fraction.ZERO};
        for (int i = 0; i < 4; i++) {
            Fraction share = Fraction.of(x.corner(0, full, i, 0)).by(Fraction.of(x.corner(0, full, i, 1)));
            sum = sum.plus(share);
            for (int k = 0; k < 4; k++) {
                worth[k] = worth[k].plus(share.times(Fraction.of(x.paid(1, i, k))));
            }
        }
        due(0, sum.compareTo(Fraction.ONE));
        due(0, worth[0].compareTo(worth[1]));
        due(0, worth[0].compareTo(worth[2]));
        due(0, worth[0].compareTo(worth[3]));
    }

    private static void balances() {
        promise(17);
        GameTables x = gameOf(new int[][] {{3, 1}, {0, 2}}, new int[][] {{2, 1}, {0, 3}});
        due(3, x.balances());
        promise(18);
        dueBalance(x, 0, 0, 0, 4, 3, 1, 2, 1);
        dueBalance(x, 1, 1, 1, 2, 3, 2, 3, 2);
        dueBalance(x, 2, 2, 2, 4, 2, 1, 3, 1);
        due(LONGS + 1, x.balance(3, 0));
        due(LONGS + 1, x.balance(-1, 7));
        due(LONGS + 1, x.balance(MAX, 0));
        due(LONGS + 1, x.balance(MIN, 0));
        due(LONGS + 2, x.balance(2, 7));
        due(LONGS + 2, x.balance(0, -1));
        // Numbered by ROW's corner, then by COLUMN's; means below 0.
        lay(x, new int[][] {{-7, -7}, {-7, -7}}, new int[][] {{-1, -1}, {-2, -2}});
        due(4, x.balances());
        dueBalance(x, 1, 0, 1, 3, -7, 1, -1, 1);
        dueBalance(x, 2, 1, 0, 3, -7, 1, -2, 1);
    }

    private static void kinds() {
        promise(18);
        // 0: ROW's 0 leaves COLUMN two answers, whose even mix leaves ROW both.
        GameTables x = gameOf(new int[][] {{1, 0}, {0, 1}}, new int[][] {{0, 0}, {0, 1}});
        due(3, x.balances());
        dueBalance(x, 0, 0, 0, 3);
        dueBalance(x, 1, 0, 1, 0, 1, 2, 0, 1);
        dueBalance(x, 2, 1, 2, 4);
        // 1: two choices each, of three of ROW's; 2: all of both.
        lay(x, new int[][] {{1, -1}, {-1, 1}, {-5, -5}}, new int[][] {{-1, 1}, {1, -1}, {0, 0}});
        due(1, x.balances());
        due(1, x.balance(0, 2));
        lay(x, new int[][] {{1, -1}, {-1, 1}}, new int[][] {{-1, 1}, {1, -1}});
        due(1, x.balances());
        due(2, x.balance(0, 2));
        // 2 ahead of 1, with unlike numbers of choices: both of ROW's, the only one of COLUMN's,
        // cannot be, for one answer pins one choice alone; so all single ones are 3.
        lay(x, new int[][] {{4}, {4}}, new int[][] {{0}, {0}});
        due(2, x.balances());
        due(3, x.balance(0, 2));
        due(3, x.balance(1, 2));
        // 3: one single answer, one of two answers.
        lay(x, new int[][] {{4}, {4}, {3}}, new int[][] {{0}, {0}, {0}});
        due(2, x.balances());
        due(3, x.balance(1, 2));
    }

    private static void find() {
        promise(19);
        GameTables x = gameOf(new int[][] {{3, 1}, {0, 2}}, new int[][] {{2, 1}, {0, 3}});
        due(-5, x.find());
        weigh(x, 0, 9, 3);
        due(-5, x.find());
        weigh(x, 1, 2, 6, 8, 8);
        due(1, x.find());
        weigh(x, 1, 2, 5);
        due(-9, x.find());
        weigh(x, 0, 0, 50);
        weigh(x, 1, 0, 1);
        due(2, x.find());
        // Two corners, but no balance.
        weigh(x, 1, 1, 0);
        due(-9, x.find());
        // A balance, but not of corners.
        x.game(2, 2);
        weigh(x, 0, 1, 1);
        due(1, x.is());
        due(-9, x.find());
        weigh(x, 0, 0, 1);
        due(2, x.find());
        weigh(x, 1, 0, 1);
        due(3, x.find());
        due(2, x.status(15));
    }

    private static void turn() {
        promise(20);
        GameTables x = gameOf(new int[][] {{1, 2, 3}, {4, 5, 6}}, new int[][] {{-1, -2, -3}, {-4, -5, -6}});
        weigh(x, 0, 1, 2, 3, 4);
        weigh(x, 1, 5, 6, 7, 8);
        due(1, x.turn());
        due(3, x.status(0));
        due(2, x.status(1));
        for (int i = 0; i < 3; i++) {
            for (int k = 0; k < 2; k++) {
                due(-(1 + i + 3 * k), x.paid(0, i, k));
                due(1 + i + 3 * k, x.paid(1, i, k));
            }
        }
        for (int choice = 0; choice < 4; choice++) {
            due(5 + choice, x.weight(0, choice, 0));
            due(1 + choice, x.weight(1, choice, 0));
        }
        due(1, x.turn());
        due(6, x.paid(0, 1, 2));
        due(-3, x.paid(1, 0, 2));
        lay(x, new int[][] {{1, 0}, {0, 1}}, new int[][] {{3, 3}, {5, 5}});
        due(2, x.corners(0));
        due(3, x.corners(1));
        x.turn();
        due(3, x.corners(0));
        due(2, x.corners(1));
    }

    private static void raise() {
        promise(21);
        GameTables x = gameOf(new int[][] {{1, 2, 3}, {4, 5, 6}}, new int[][] {{-1, -2, -3}, {-4, -5, -6}});
        due(1, x.raise(0, 2, 14));
        due(17, x.paid(0, 0, 2));
        due(20, x.paid(0, 1, 2));
        due(2, x.paid(0, 0, 1));
        due(-3, x.paid(1, 0, 2));
        due(1, x.raise(1, 1, -14));
        due(-18, x.paid(1, 1, 0));
        due(-20, x.paid(1, 1, 2));
        due(-1, x.paid(1, 0, 0));
        due(-6, x.raise(0, 2, 1));
        due(-4, x.raise(1, 1, -1));
        due(-4, x.raise(0, 0, MIN));
        due(-6, x.raise(0, 2, MAX));
        due(-4, x.raise(1, 1, MIN));
        due(-6, x.raise(1, 0, MAX));
        due(-1, x.raise(2, 0, 0));
        due(-1, x.raise(0, 3, MAX));
        due(-1, x.raise(0, -1, MIN));
        due(-1, x.raise(1, 2, 0));
        due(17, x.paid(0, 0, 2));
        due(20, x.paid(0, 1, 2));
        due(-20, x.paid(1, 1, 2));
        lay(x, new int[][] {{-20}, {-20}}, new int[][] {{0}, {0}});
        due(1, x.raise(0, 0, 40));
        due(20, x.paid(0, 1, 0));
        due(1, x.raise(0, 0, -40));
        due(-6, x.raise(0, 0, 41));
        due(-4, x.raise(0, 0, -1));
        // One alone, the first or the last, is enough to refuse.
        lay(x, new int[][] {{-10, 10}, {0, 0}}, new int[][] {{0, 10}, {0, -10}});
        due(-4, x.raise(0, 0, -11));
        due(-6, x.raise(0, 1, 11));
        due(-6, x.raise(1, 0, 11));
        due(-4, x.raise(1, 1, -11));
        due(1, x.raise(1, 0, -11));
        due(-1, x.paid(1, 0, 1));
    }

    private static void scale() {
        promise(22);
        GameTables x = gameOf(new int[][] {{2, -5}}, new int[][] {{0, 0}});
        due(1, x.scale(0, 4));
        due(8, x.paid(0, 0, 0));
        due(-20, x.paid(0, 0, 1));
        due(1, x.scale(0, 1));
        due(-6, x.scale(0, 2));
        due(-4, x.scale(0, 0));
        due(-4, x.scale(0, -1));
        due(-4, x.scale(1, MIN));
        due(-1, x.scale(2, 0));
        due(-1, x.scale(-1, 1));
        due(1, x.scale(1, MAX));
        due(0, x.paid(1, 0, 1));
        x.pay(1, 0, 0, 20);
        // 20 times this is 4 in ints that wrap around.
        due(-6, x.scale(1, 214748365));
        due(-6, x.scale(1, MAX));
        due(20, x.paid(1, 0, 0));
        due(8, x.paid(0, 0, 0));
        due(-20, x.paid(0, 0, 1));
    }

    private static void status() {
        promise(23);
        GameTables x = gameOf(new int[][] {{1, -2}, {3, 0}}, new int[][] {{-1, 2}, {-3, 0}});
        due(1, x.status(2));
        due(0, x.status(3));
        x.pay(1, 1, 1, 1);
        due(0, x.status(2));
        lay(x, new int[][] {{1, -2}, {3, 0}}, new int[][] {{1, 3}, {-2, 0}});
        due(1, x.status(3));
        due(0, x.status(2));
        x.game(2, 2);
        x.pay(1, 0, 0, 1);
        due(0, x.status(2));
        due(0, x.status(3));
        x.game(2, 3);
        due(1, x.status(2));
        due(0, x.status(3));
        due(5, x.status(4));
        for (int what : new int[] {MIN, -1, 5, 6, 10, 17, MAX}) {
            due(-9, x.status(what));
        }
        x.weight(0, 4, 0);
        x.worse(0, 2);
        x.sure(2);
        x.balance(-1, 0);
        x.corner(0, 0, 0, 3);
        x.mean(0, 2);
        x.scale(0, 0);
        x.is();
        x.find();
        x.mean(0, 0);
        x.why();
        x.game(9, 9);
        due(4, x.status(11));
        due(2, x.status(12));
        due(0, x.status(13));
        due(1, x.status(14));
        due(3, x.status(15));
        due(1, x.status(16));
        x.game(1, 1);
        x.turn();
        due(4, x.status(11));
    }

    private static void refusalsChangeNothing() {
        promise(2);
        GameTables x = gameOf(new int[][] {{3, 1}, {0, 2}}, new int[][] {{2, 1}, {0, 3}});
        weigh(x, 0, 9, 3);
        weigh(x, 1, 2, 6);
        x.game(2, 9);
        x.pay(0, 0, 0, 21);
        x.pay(1, 0, 2, 0);
        x.weight(0, 0, 100);
        x.raise(0, 0, 18);
        x.scale(1, 7);
        due(3, x.balances());
        due(1, x.find());
        due(3, x.paid(0, 0, 0));
        due(9, x.weight(0, 0, 9));
        due(1, x.status(11));
        due(5, x.status(16));
    }

    private static void fiveHundredCalls() {
        promise(15);
        GameTables x = new GameTables();
        x.game(4, 4);
        for (int round = 0; round < 100; round++) {
            x.pay(0, round % 4, round / 4 % 4, round % 41 - 20);
            x.pay(1, round / 4 % 4, round % 4, round % 37 - 18);
            int rows = x.corners(0);
            int columns = x.corners(1);
            due(rows + columns, x.status(4));
        }
    }
}
