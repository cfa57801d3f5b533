/**
 * What the tests share. A test names the sentence of the document that it tests, word by word
 * (Quotes tells those that no test names), and then the answers that are due.
 */
abstract class Checks {
    static final int MIN = Integer.MIN_VALUE;
    static final int MAX = Integer.MAX_VALUE;
    /** Refusals of pay(), paid(), sure() and hold() are told by this, those of longs by the next. */
    static final int PAYS = 1000000000;
    static final long LONGS = 4000000000000000000L;

    private static String sentence = "";
    private static int answer = 0;
    private static int wrong = 0;

    static void sentence(String quote) {
        sentence = quote;
        answer = 0;
    }

    static void due(long want, long got) {
        answer++;
        if (got != want) {
            wrong++;
            System.out.println("'" + sentence + "', answer " + answer + ": " + got + ", due is " + want);
        }
    }

    static void end() {
        if (wrong > 0) {
            System.exit(1);
        }
    }

    /** A game by ROW's pays and COLUMN's, both a line for each choice of ROW's. */
    static GameTables gameOf(int[][] rows, int[][] columns) {
        GameTables x = new GameTables();
        lay(x, rows, columns);
        return x;
    }

    static void lay(GameTables x, int[][] rows, int[][] columns) {
        x.game(rows.length, rows[0].length);
        for (int i = 0; i < rows.length; i++) {
            for (int k = 0; k < rows[0].length; k++) {
                x.pay(0, i, k, rows[i][k]);
                x.pay(1, i, k, columns[i][k]);
            }
        }
    }

    static void weigh(GameTables x, int who, int... weights) {
        for (int choice = 0; choice < weights.length; choice++) {
            x.weight(who, choice, weights[choice]);
        }
    }

    /** Shares as numerator and denominator of each choice. */
    static void dueCorner(GameTables x, int who, int c, int answers, int... shares) {
        for (int choice = 0; choice < shares.length / 2; choice++) {
            due(shares[2 * choice], x.corner(who, c, choice, 0));
            due(shares[2 * choice + 1], x.corner(who, c, choice, 1));
            due(answers, x.corner(who, c, choice, 2));
        }
    }

    static void dueBalance(GameTables x, int b, long... parts) {
        for (int what = 0; what < parts.length; what++) {
            due(parts[what], x.balance(b, what));
        }
    }

    static void dueCounts(GameTables x, int... counts) {
        for (int number = 0; number < 6; number++) {
            due(counts[number], x.status(11 + number));
        }
    }
}
