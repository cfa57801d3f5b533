/** Promises 1 to 5 and 20 to 23: the game, its pays, the tray, and what changes them as a whole. */
public final class GameTest extends Checks {
    public static void main(String[] args) {
        newObject();
        gameOfEachSize();
        gameForgetsPays();
        gameKeepsWeights();
        gameTooSmall();
        gameTooLarge();
        payTellsWhatItWas();
        payBelongsToOne();
        payForNobody();
        payTooSmall();
        payTooLarge();
        paid();
        paidForNobody();
        weightTellsWhatItWas();
        weightRefused();
        turn();
        turnOfOneLine();
        turnKeepsTheCorners();
        turnTwice();
        raise();
        raiseByNothing();
        raiseForNobody();
        raiseTooLow();
        raiseTooHigh();
        scale();
        scaleForNobody();
        scaleTooLow();
        scaleTooHigh();
        statusOfSizes();
        statusOfOpposites();
        statusOfLikes();
        statusOfCorners();
        statusOfRefusals();
        statusOfAnother();
        end();
    }

    private static void newObject() {
        sentence("A GAME of one choice each.");
        GameTables x = new GameTables();
        due(1, x.status(0));
        due(1, x.status(1));
        due(0, x.paid(0, 0, 0));
        due(0, x.paid(1, 0, 0));
        due(PAYS + 1, x.paid(0, 1, 0));
        due(PAYS + 1, x.paid(0, 0, 1));
        due(PAYS + 1, x.paid(1, 1, 0));
        due(PAYS + 1, x.paid(1, 0, 1));
        x = new GameTables();
        due(1, x.status(2));
        due(1, x.status(3));
        due(2, x.status(4));
        dueCounts(x, 0, 0, 0, 0, 0, 0);
        due(1, x.balances());
        dueBalance(x, 0, 0, 0, 4, 0, 1, 0, 1);
        due(1, x.left(0));
        due(1, x.left(1));
        due(0, x.times());
        due(0, x.sure(0));
        due(0, x.hold(1));
        due(-9, x.worse(0, 0));
        due(-9, x.worse(1, 0));
        due(-9, x.why());
        dueCounts(x, 0, 0, 0, 0, 0, 0);
    }

    private static void gameOfEachSize() {
        sentence("A GAME, all PAYS 0; weights stay: 1.");
        GameTables x = new GameTables();
        for (int m = 1; m <= 4; m++) {
            for (int n = 1; n <= 4; n++) {
                due(1, x.game(m, n));
                due(m, x.status(0));
                due(n, x.status(1));
                due(0, x.paid(0, m - 1, n - 1));
                due(0, x.paid(1, m - 1, n - 1));
                due(PAYS + 1, x.paid(0, m, n - 1));
                due(PAYS + 1, x.paid(1, m - 1, n));
                due((1 << m) - 1, x.left(0));
                due((1 << n) - 1, x.left(1));
                due(m * n, x.balances());
            }
        }
    }

    private static void gameForgetsPays() {
        sentence("A GAME, all PAYS 0; weights stay: 1.");
        for (int way = 0; way < 3; way++) {
            GameTables x = new GameTables();
            x.game(4, 4);
            for (int place = 0; place < 32; place++) {
                x.pay(place / 16, place / 4 % 4, place % 4, 7);
            }
            // What was outside of a smaller game in between may not come back.
            if (way == 1) {
                x.game(1, 1);
            } else if (way == 2) {
                x.game(1, 4);
                x.turn();
            }
            due(1, x.game(4, 4));
            for (int place = 0; place < 32; place++) {
                due(0, x.paid(place / 16, place / 4 % 4, place % 4));
            }
            due(1, x.status(2));
            due(1, x.status(3));
            due(8, x.status(4));
        }
    }

    private static void gameKeepsWeights() {
        sentence("A GAME, all PAYS 0; weights stay: 1.");
        GameTables x = new GameTables();
        weigh(x, 0, 1, 2, 3, 4);
        weigh(x, 1, 5, 6, 7, 8);
        due(1, x.game(4, 4));
        due(1, x.game(1, 2));
        due(1, x.game(3, 1));
        for (int choice = 0; choice < 4; choice++) {
            due(1 + choice, x.weight(0, choice, 0));
            due(5 + choice, x.weight(1, choice, 0));
        }
    }

    private static void gameTooSmall() {
        sentence("-4 m or n below 1;");
        GameTables x = new GameTables();
        x.game(2, 3);
        for (int few : new int[] {0, -1, MIN}) {
            due(-4, x.game(few, 1));
            due(-4, x.game(1, few));
            due(-4, x.game(few, 4));
            due(-4, x.game(4, few));
            due(-4, x.game(few, few));
            due(-4, x.game(few, 5));
            due(-4, x.game(5, few));
            due(-4, x.game(MAX, few));
        }
        due(2, x.status(0));
        due(3, x.status(1));
        dueCounts(x, 0, 0, 0, 24, 0, 0);
    }

    private static void gameTooLarge() {
        sentence("-6 above 4.");
        GameTables x = new GameTables();
        x.game(2, 3);
        for (int many : new int[] {5, 6, MAX}) {
            due(-6, x.game(many, 1));
            due(-6, x.game(1, many));
            due(-6, x.game(many, 4));
            due(-6, x.game(4, many));
            due(-6, x.game(many, many));
        }
        due(2, x.status(0));
        due(3, x.status(1));
        dueCounts(x, 0, 0, 0, 0, 0, 15);
    }

    private static void payTellsWhatItWas() {
        sentence("WHO's PAY for ROW's choice i and COLUMN's k: what it was.");
        GameTables x = new GameTables();
        due(0, x.pay(0, 0, 0, 20));
        due(20, x.pay(0, 0, 0, -20));
        due(-20, x.pay(0, 0, 0, -20));
        due(-20, x.pay(0, 0, 0, 0));
        due(0, x.pay(0, 0, 0, 0));
        dueCounts(x, 0, 0, 0, 0, 0, 0);
    }

    private static void payBelongsToOne() {
        sentence("WHO's PAY for ROW's choice i and COLUMN's k: what it was.");
        GameTables x = new GameTables();
        x.game(3, 4);
        for (int place = 0; place < 24; place++) {
            due(0, x.pay(place / 12, place / 4 % 3, place % 4, place - 12));
        }
        for (int place = 0; place < 24; place++) {
            due(place - 12, x.paid(place / 12, place / 4 % 3, place % 4));
        }
        for (int place = 0; place < 24; place++) {
            due(place - 12, x.pay(place / 12, place / 4 % 3, place % 4, 12 - place));
        }
    }

    private static void payForNobody() {
        sentence("-1 (WHO, i, k);");
        GameTables x = new GameTables();
        x.game(2, 3);
        for (int who : new int[] {2, -1, MIN, MAX}) {
            due(PAYS + 1, x.pay(who, 0, 0, 5));
        }
        for (int who = 0; who < 2; who++) {
            for (int i : new int[] {2, 3, 4, -1, MIN, MAX}) {
                due(PAYS + 1, x.pay(who, i, 0, 5));
                due(PAYS + 1, x.pay(who, i, 2, 5));
            }
            for (int k : new int[] {3, 4, -1, MIN, MAX}) {
                due(PAYS + 1, x.pay(who, 0, k, 5));
                due(PAYS + 1, x.pay(who, 1, k, 5));
            }
        }
        // Ahead of the number: a place that is not there, with any number.
        due(PAYS + 1, x.pay(2, 0, 0, -21));
        due(PAYS + 1, x.pay(0, 2, 0, 21));
        due(PAYS + 1, x.pay(1, 0, 3, MIN));
        dueCounts(x, 51, 0, 0, 0, 0, 0);
        for (int place = 0; place < 12; place++) {
            due(0, x.paid(place / 6, place / 3 % 2, place % 3));
        }
    }

    private static void payTooSmall() {
        sentence("-4 below -20;");
        GameTables x = new GameTables();
        x.pay(0, 0, 0, 9);
        due(PAYS + 4, x.pay(0, 0, 0, -21));
        due(PAYS + 4, x.pay(0, 0, 0, MIN));
        due(PAYS + 4, x.pay(1, 0, 0, -21));
        due(9, x.pay(0, 0, 0, -20));
        due(0, x.pay(1, 0, 0, -20));
        dueCounts(x, 0, 0, 0, 3, 0, 0);
    }

    private static void payTooLarge() {
        sentence("-6 above 20.");
        GameTables x = new GameTables();
        x.pay(0, 0, 0, 9);
        due(PAYS + 6, x.pay(0, 0, 0, 21));
        due(PAYS + 6, x.pay(0, 0, 0, MAX));
        due(PAYS + 6, x.pay(1, 0, 0, 21));
        due(9, x.pay(0, 0, 0, 20));
        due(0, x.pay(1, 0, 0, 20));
        dueCounts(x, 0, 0, 0, 0, 0, 3);
    }

    private static void paid() {
        sentence("WHO's PAY. Refused as told: -1.");
        GameTables x = gameOf(new int[][] {{1, -2, 20}, {4, 5, -6}}, new int[][] {{-7, 8, 9}, {10, -20, 12}});
        due(1, x.paid(0, 0, 0));
        due(-2, x.paid(0, 0, 1));
        due(20, x.paid(0, 0, 2));
        due(4, x.paid(0, 1, 0));
        due(5, x.paid(0, 1, 1));
        due(-6, x.paid(0, 1, 2));
        due(-7, x.paid(1, 0, 0));
        due(8, x.paid(1, 0, 1));
        due(9, x.paid(1, 0, 2));
        due(10, x.paid(1, 1, 0));
        due(-20, x.paid(1, 1, 1));
        due(12, x.paid(1, 1, 2));
        dueCounts(x, 0, 0, 0, 0, 0, 0);
    }

    private static void paidForNobody() {
        sentence("WHO's PAY. Refused as told: -1.");
        GameTables x = new GameTables();
        x.game(2, 3);
        for (int who : new int[] {2, -1, MIN, MAX}) {
            due(PAYS + 1, x.paid(who, 0, 0));
        }
        for (int who = 0; who < 2; who++) {
            for (int i : new int[] {2, 3, 4, -1, MIN, MAX}) {
                due(PAYS + 1, x.paid(who, i, 0));
                due(PAYS + 1, x.paid(who, i, 2));
            }
            for (int k : new int[] {3, 4, -1, MIN, MAX}) {
                due(PAYS + 1, x.paid(who, 0, k));
                due(PAYS + 1, x.paid(who, 1, k));
            }
        }
        dueCounts(x, 48, 0, 0, 0, 0, 0);
    }

    private static void weightTellsWhatItWas() {
        sentence("A weight in the TRAY (of a choice 0 .. 3): what it was.");
        GameTables x = new GameTables();
        for (int place = 0; place < 8; place++) {
            due(0, x.weight(place / 4, place % 4, 99));
        }
        for (int place = 0; place < 8; place++) {
            due(99, x.weight(place / 4, place % 4, place));
        }
        for (int place = 0; place < 8; place++) {
            due(place, x.weight(place / 4, place % 4, 0));
        }
        dueCounts(x, 0, 0, 0, 0, 0, 0);
    }

    private static void weightRefused() {
        sentence("-1; -4; -6.");
        GameTables x = new GameTables();
        x.game(4, 4);
        x.weight(1, 3, 7);
        for (int nobody : new int[] {-1, MIN, MAX}) {
            due(-1, x.weight(nobody, 3, 5));
            due(-1, x.weight(1, nobody, 5));
            due(-1, x.weight(nobody, 3, -1));
            due(-1, x.weight(1, nobody, 100));
        }
        due(-1, x.weight(2, 3, 5));
        due(-1, x.weight(1, 4, 5));
        due(-1, x.weight(0, 4, 5));
        due(-4, x.weight(1, 3, -1));
        due(-4, x.weight(1, 3, MIN));
        due(-4, x.weight(0, 0, -1));
        due(-6, x.weight(1, 3, 100));
        due(-6, x.weight(1, 3, MAX));
        due(-6, x.weight(0, 0, 100));
        dueCounts(x, 15, 0, 0, 3, 0, 3);
        due(7, x.weight(1, 3, 0));
        due(0, x.weight(0, 0, 0));
    }

    private static void turn() {
        sentence("ROW and COLUMN change places (choices, PAYS, weights): 1.");
        GameTables x = gameOf(new int[][] {{1, 2, 3}, {4, 5, 6}}, new int[][] {{-1, -2, -3}, {-4, -5, -7}});
        weigh(x, 0, 1, 2, 3, 4);
        weigh(x, 1, 5, 6, 7, 8);
        due(1, x.turn());
        due(3, x.status(0));
        due(2, x.status(1));
        for (int i = 0; i < 3; i++) {
            for (int k = 0; k < 2; k++) {
                due(-(1 + i + 3 * k) - (i == 2 && k == 1 ? 1 : 0), x.paid(0, i, k));
                due(1 + i + 3 * k, x.paid(1, i, k));
            }
        }
        due(PAYS + 1, x.paid(0, 1, 2));
        // Those of choices that are not there change places, too.
        for (int choice = 0; choice < 4; choice++) {
            due(5 + choice, x.weight(0, choice, 0));
            due(1 + choice, x.weight(1, choice, 0));
        }
    }

    private static void turnOfOneLine() {
        sentence("turn(): the tables are laid over, too;");
        GameTables x = gameOf(new int[][] {{1, 2, 3, 4}}, new int[][] {{-5, -6, -7, -8}});
        due(1, x.turn());
        due(4, x.status(0));
        due(1, x.status(1));
        for (int i = 0; i < 4; i++) {
            due(-5 - i, x.paid(0, i, 0));
            due(1 + i, x.paid(1, i, 0));
        }
        due(PAYS + 1, x.paid(0, 0, 1));
        lay(x, new int[][] {{1, 2}, {3, 4}}, new int[][] {{5, 6}, {7, 8}});
        due(1, x.turn());
        due(7, x.paid(0, 0, 1));
        due(6, x.paid(0, 1, 0));
        due(3, x.paid(1, 0, 1));
        due(2, x.paid(1, 1, 0));
        x.pay(0, 0, 1, 19);
        due(1, x.turn());
        due(19, x.paid(1, 1, 0));
        due(2, x.paid(0, 0, 1));
    }

    private static void turnKeepsTheCorners() {
        sentence("ROW and COLUMN change places (choices, PAYS, weights): 1.");
        for (int asked = 0; asked < 2; asked++) {
            GameTables x = gameOf(new int[][] {{1, 0}, {0, 1}}, new int[][] {{3, 3}, {5, 5}});
            // Corners change places whether they were asked for before or not.
            if (asked == 1) {
                due(2, x.corners(0));
                due(3, x.corners(1));
            }
            x.turn();
            due(3, x.corners(0));
            due(2, x.corners(1));
            dueCorner(x, 0, 1, 3, 1, 2, 1, 2);
            x.pay(1, 0, 1, 2);
            due(2, x.corners(0));
            x.turn();
            due(2, x.corners(1));
            due(2, x.corners(0));
        }
    }

    private static void turnTwice() {
        sentence("ROW and COLUMN change places (choices, PAYS, weights): 1.");
        GameTables x = gameOf(new int[][] {{1, 2, 3}, {4, 5, 6}}, new int[][] {{-1, -2, -3}, {-4, -5, -6}});
        weigh(x, 0, 1, 2, 3, 4);
        x.paid(2, 0, 0);
        due(1, x.turn());
        due(1, x.turn());
        due(2, x.status(0));
        due(3, x.status(1));
        due(6, x.paid(0, 1, 2));
        due(-3, x.paid(1, 0, 2));
        due(4, x.weight(0, 3, 0));
        due(0, x.weight(1, 3, 0));
        dueCounts(x, 1, 0, 0, 0, 0, 0);
    }

    private static void raise() {
        sentence("All PAYS of WHO become more by v in one choice of the other's: 1.");
        GameTables x = gameOf(new int[][] {{1, 2, 3}, {4, 5, 6}}, new int[][] {{-1, -2, -3}, {-4, -5, -6}});
        due(1, x.raise(0, 2, 14));
        int[] rows = {1, 2, 17, 4, 5, 20};
        for (int place = 0; place < 6; place++) {
            due(rows[place], x.paid(0, place / 3, place % 3));
            due(-1 - place, x.paid(1, place / 3, place % 3));
        }
        due(1, x.raise(1, 1, -14));
        int[] columns = {-1, -2, -3, -18, -19, -20};
        for (int place = 0; place < 6; place++) {
            due(rows[place], x.paid(0, place / 3, place % 3));
            due(columns[place], x.paid(1, place / 3, place % 3));
        }
        // All the way from one end to the other.
        lay(x, new int[][] {{-20}, {-20}}, new int[][] {{0}, {0}});
        due(1, x.raise(0, 0, 40));
        due(20, x.paid(0, 0, 0));
        due(20, x.paid(0, 1, 0));
        due(1, x.raise(0, 0, -40));
        due(-20, x.paid(0, 0, 0));
        due(-20, x.paid(0, 1, 0));
    }

    private static void raiseByNothing() {
        sentence("All PAYS of WHO become more by v in one choice of the other's: 1.");
        GameTables x = gameOf(new int[][] {{-20, 20}}, new int[][] {{20, -20}});
        due(1, x.raise(0, 0, 0));
        due(1, x.raise(0, 1, 0));
        due(1, x.raise(1, 0, 0));
        due(-20, x.paid(0, 0, 0));
        due(20, x.paid(0, 0, 1));
        due(20, x.paid(1, 0, 0));
        due(-20, x.paid(1, 0, 1));
        dueCounts(x, 0, 0, 0, 0, 0, 0);
    }

    private static void raiseForNobody() {
        sentence("-1; -4 one would be below -20; -6 above 20.");
        GameTables x = new GameTables();
        x.game(2, 4);
        for (int who : new int[] {2, -1, MIN, MAX}) {
            due(-1, x.raise(who, 0, 0));
        }
        // The choice is one of the other's: ROW's pays have four, COLUMN's two.
        for (int choice : new int[] {4, 5, -1, MIN, MAX}) {
            due(-1, x.raise(0, choice, 1));
            due(-1, x.raise(1, choice, 1));
        }
        due(-1, x.raise(1, 2, 1));
        due(-1, x.raise(1, 3, 1));
        due(1, x.raise(0, 2, 1));
        due(1, x.raise(0, 3, 1));
        due(1, x.raise(1, 1, 1));
        // Ahead of what pays would be.
        due(-1, x.raise(2, 0, MIN));
        due(-1, x.raise(0, 4, MAX));
        due(-1, x.raise(1, 2, -41));
        dueCounts(x, 19, 0, 0, 0, 0, 0);
    }

    private static void raiseTooLow() {
        sentence("-1; -4 one would be below -20; -6 above 20.");
        // One alone is enough, the first, one in the middle or the last; those elsewhere don't count.
        for (int low = 0; low < 4; low++) {
            GameTables x = new GameTables();
            x.game(4, 2);
            x.pay(0, low, 1, -10);
            due(-4, x.raise(0, 1, -11));
            due(-4, x.raise(0, 1, MIN));
            for (int i = 0; i < 4; i++) {
                due(i == low ? -10 : 0, x.paid(0, i, 1));
            }
            due(1, x.raise(0, 0, -11));
            due(1, x.raise(0, 1, -10));
            due(-20, x.paid(0, low, 1));
            due(-4, x.raise(0, 1, -1));
            dueCounts(x, 0, 0, 0, 3, 0, 0);
        }
        GameTables y = gameOf(new int[][] {{0, 0}, {0, 0}}, new int[][] {{0, -20}, {20, 0}});
        due(-4, y.raise(1, 0, -1));
        due(1, y.raise(1, 1, -20));
        due(0, y.paid(1, 1, 0));
        due(-20, y.paid(1, 1, 1));
        due(-4, y.raise(1, 1, MIN));
    }

    private static void raiseTooHigh() {
        sentence("-1; -4 one would be below -20; -6 above 20.");
        for (int high = 0; high < 4; high++) {
            GameTables x = new GameTables();
            x.game(4, 2);
            x.pay(0, high, 1, 10);
            due(-6, x.raise(0, 1, 11));
            due(-6, x.raise(0, 1, MAX));
            for (int i = 0; i < 4; i++) {
                due(i == high ? 10 : 0, x.paid(0, i, 1));
            }
            due(1, x.raise(0, 0, 11));
            due(1, x.raise(0, 1, 10));
            due(20, x.paid(0, high, 1));
            due(-6, x.raise(0, 1, 1));
            dueCounts(x, 0, 0, 0, 0, 0, 3);
        }
        GameTables y = gameOf(new int[][] {{0, 0}, {0, 0}}, new int[][] {{0, 20}, {-20, 0}});
        due(-6, y.raise(1, 0, 1));
        due(1, y.raise(1, 1, 20));
        due(0, y.paid(1, 1, 0));
        due(20, y.paid(1, 1, 1));
        due(-6, y.raise(1, 1, MAX));
    }

    private static void scale() {
        sentence("All PAYS of WHO are multiplied by v: 1.");
        GameTables x = gameOf(new int[][] {{2, -5, 0}, {3, 1, -1}}, new int[][] {{-2, 1, 0}, {0, 2, 1}});
        due(1, x.scale(0, 4));
        int[] rows = {8, -20, 0, 12, 4, -4};
        int[] columns = {-2, 1, 0, 0, 2, 1};
        for (int place = 0; place < 6; place++) {
            due(rows[place], x.paid(0, place / 3, place % 3));
            due(columns[place], x.paid(1, place / 3, place % 3));
        }
        due(1, x.scale(1, 10));
        for (int place = 0; place < 6; place++) {
            due(rows[place], x.paid(0, place / 3, place % 3));
            due(10 * columns[place], x.paid(1, place / 3, place % 3));
        }
        due(1, x.scale(0, 1));
        due(-20, x.paid(0, 0, 1));
    }

    private static void scaleForNobody() {
        sentence("-1; -4 v below 1; -6 one would be above 20, or below -20.");
        GameTables x = new GameTables();
        x.pay(0, 0, 0, 20);
        for (int who : new int[] {2, -1, MIN, MAX}) {
            due(-1, x.scale(who, 1));
            due(-1, x.scale(who, 0));
            due(-1, x.scale(who, MAX));
        }
        dueCounts(x, 12, 0, 0, 0, 0, 0);
    }

    private static void scaleTooLow() {
        sentence("-1; -4 v below 1; -6 one would be above 20, or below -20.");
        GameTables x = new GameTables();
        x.pay(0, 0, 0, 20);
        for (int v : new int[] {0, -1, -2, MIN}) {
            due(-4, x.scale(0, v));
            due(-4, x.scale(1, v));
        }
        due(20, x.paid(0, 0, 0));
        dueCounts(x, 0, 0, 0, 8, 0, 0);
    }

    private static void scaleTooHigh() {
        sentence("-1; -4 v below 1; -6 one would be above 20, or below -20.");
        for (int sign = -1; sign <= 1; sign += 2) {
            GameTables x = new GameTables();
            x.game(2, 2);
            x.pay(0, 1, 1, 7 * sign);
            x.pay(1, 0, 0, 20 * sign);
            due(-6, x.scale(0, 3));
            due(-6, x.scale(0, MAX));
            due(-6, x.scale(1, 2));
            // 20 times this is 4 in ints that wrap around.
            due(-6, x.scale(1, 214748365));
            due(-6, x.scale(1, 1 << 30));
            due(7 * sign, x.paid(0, 1, 1));
            due(20 * sign, x.paid(1, 0, 0));
            due(1, x.scale(0, 2));
            due(1, x.scale(1, 1));
            due(14 * sign, x.paid(0, 1, 1));
            dueCounts(x, 0, 0, 0, 0, 0, 5);
        }
    }

    private static void statusOfSizes() {
        sentence("0 ROW's choices, 1 COLUMN's,");
        GameTables x = new GameTables();
        x.game(4, 1);
        due(4, x.status(0));
        due(1, x.status(1));
        x.game(1, 4);
        due(1, x.status(0));
        due(4, x.status(1));
    }

    private static void statusOfOpposites() {
        sentence("2 1 if PAYS of both make 0 for all two choices (0),");
        GameTables x = new GameTables();
        due(1, x.status(2));
        x.game(2, 3);
        due(1, x.status(2));
        for (int place = 0; place < 6; place++) {
            due(0, x.pay(0, place / 3, place % 3, place + 1));
            due(0, x.status(2));
            due(0, x.pay(1, place / 3, place % 3, -place - 1));
            due(1, x.status(2));
        }
        // Each one alone is enough to break it.
        for (int place = 0; place < 6; place++) {
            x.pay(1, place / 3, place % 3, -place);
            due(0, x.status(2));
            x.pay(1, place / 3, place % 3, -place - 1);
        }
        due(1, x.status(2));
        lay(x, new int[][] {{1, -1}, {-1, 1}}, new int[][] {{-1, -1}, {-1, -1}});
        due(0, x.status(2));
    }

    private static void statusOfLikes() {
        sentence("3 1 if m is n and COLUMN's PAY for i, k is ROW's for k, i (0),");
        GameTables x = new GameTables();
        for (int m = 1; m <= 4; m++) {
            for (int n = 1; n <= 4; n++) {
                x.game(m, n);
                due(m == n ? 1 : 0, x.status(3));
            }
        }
        lay(x, new int[][] {{1, -2, 3}, {4, 5, -6}, {7, 8, 9}}, new int[][] {{1, 4, 7}, {-2, 5, 8}, {3, -6, 9}});
        due(1, x.status(3));
        for (int place = 0; place < 9; place++) {
            int was = x.pay(1, place / 3, place % 3, 20);
            due(0, x.status(3));
            x.pay(1, place / 3, place % 3, was);
        }
        due(1, x.status(3));
        // The same two tables, not laid over, are not it.
        lay(x, new int[][] {{1, 2}, {3, 4}}, new int[][] {{1, 2}, {3, 4}});
        due(0, x.status(3));
    }

    private static void statusOfCorners() {
        sentence("4 CORNERS of both,");
        GameTables x = gameOf(new int[][] {{1, 0}, {0, 1}}, new int[][] {{3, 3}, {5, 5}});
        due(5, x.status(4));
        due(2, x.corners(0));
        due(3, x.corners(1));
        x.pay(1, 1, 0, 6);
        due(5, x.status(4));
        x.pay(1, 0, 1, 4);
        due(6, x.status(4));
        x.game(4, 3);
        due(7, x.status(4));
    }

    private static void statusOfRefusals() {
        sentence("11 .. 16 REFUSALS -1 .. -6.");
        GameTables x = new GameTables();
        x.worse(0, 1);
        dueCounts(x, 1, 0, 0, 0, 0, 0);
        x.corner(0, 0, 0, 3);
        x.mean(0, 2);
        dueCounts(x, 1, 2, 0, 0, 0, 0);
        x.game(0, 0);
        x.scale(0, 0);
        x.pay(0, 0, 0, -21);
        dueCounts(x, 1, 2, 0, 3, 0, 0);
        x.is();
        x.find();
        x.mean(0, 0);
        x.answers(0);
        dueCounts(x, 1, 2, 0, 3, 4, 0);
        x.game(5, 5);
        x.weight(0, 0, 100);
        x.raise(0, 0, 21);
        x.scale(0, 1);
        x.pay(0, 0, 0, 21);
        dueCounts(x, 1, 2, 0, 3, 4, 4);
        // They outlast a new game and a turn.
        x.game(2, 2);
        x.turn();
        dueCounts(x, 1, 2, 0, 3, 4, 4);
    }

    private static void statusOfAnother() {
        sentence("-9 for another what.");
        GameTables x = new GameTables();
        x.game(2, 2);
        for (int what = -3; what < 30; what++) {
            if (what < 0 || what > 4 && what < 11 || what > 16) {
                due(-9, x.status(what));
            }
        }
        due(-9, x.status(MIN));
        due(-9, x.status(MAX));
        due(-9, x.status(-11));
        due(-9, x.status(11 - (1 << 31)));
        dueCounts(x, 0, 0, 0, 0, 0, 0);
    }
}
