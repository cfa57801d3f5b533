/** Promises 6 to 14: means, answers, balances of the tray, worse choices, dropping, sure and hold. */
public final class MeansTest extends Checks {
    public static void main(String[] args) {
        mean();
        meanWithoutMixes();
        meanRefused();
        answers();
        answersOfAll();
        answersRefused();
        is();
        isByEachOnesOwnPays();
        isWithoutMixes();
        why();
        whyFirstChoice();
        whyRowAhead();
        whyWithout();
        worse();
        worseFirst();
        worseWithout();
        worseRefused();
        left();
        leftRefused();
        times();
        timesMost();
        sure();
        sureRefused();
        hold();
        holdRefused();
        end();
    }

    private static void mean() {
        sentence("MEAN of WHO with both MIXES of the TRAY: its numerator (0), denominator (1).");
        GameTables x = gameOf(new int[][] {{3, -1, 0}, {-2, 4, 0}}, new int[][] {{-20, 2, 1}, {0, -6, 1}});
        // Weights of choices that are not there don't count.
        weigh(x, 0, 1, 2, 50, 50);
        weigh(x, 1, 3, 1, 0, 9);
        // ROW: (3*3 - 1 + 2 * (-2*3 + 4)) / 12; COLUMN: (-60 + 2 + 2 * -6) / 12.
        due(1, x.mean(0, 0));
        due(3, x.mean(0, 1));
        due(-35, x.mean(1, 0));
        due(6, x.mean(1, 1));
        weigh(x, 1, 0, 0, 5);
        due(0, x.mean(0, 0));
        due(1, x.mean(0, 1));
        due(1, x.mean(1, 0));
        due(1, x.mean(1, 1));
        dueCounts(x, 0, 0, 0, 0, 0, 0);
    }

    private static void meanWithoutMixes() {
        sentence("Refused as told: -1; -2; -5.");
        for (int who = 0; who < 2; who++) {
            GameTables x = new GameTables();
            x.game(2, 3);
            due(LONGS + 5, x.mean(who, 0));
            due(LONGS + 5, x.mean(who, 1));
            // Both are wanted, whoever is asked for.
            x.weight(0, 1, 99);
            due(LONGS + 5, x.mean(who, 0));
            x.weight(0, 1, 0);
            x.weight(1, 2, 1);
            due(LONGS + 5, x.mean(who, 0));
            // Not there: choices 2 and 3 of ROW's.
            weigh(x, 0, 0, 0, 99, 99);
            due(LONGS + 5, x.mean(who, 0));
            x.weight(0, 0, 1);
            due(0, x.mean(who, 0));
            due(1, x.mean(who, 1));
            // Not there: choice 3 of COLUMN's.
            weigh(x, 1, 0, 0, 0, 1);
            due(LONGS + 5, x.mean(who, 1));
            dueCounts(x, 0, 0, 0, 0, 6, 0);
        }
    }

    private static void meanRefused() {
        sentence("Refused as told: -1; -2; -5.");
        for (int full = 0; full < 2; full++) {
            GameTables x = new GameTables();
            x.weight(0, 0, full);
            x.weight(1, 0, full);
            for (int who : new int[] {2, -1, MIN, MAX}) {
                due(LONGS + 1, x.mean(who, 0));
                due(LONGS + 1, x.mean(who, 2));
            }
            for (int what : new int[] {2, -1, MIN, MAX}) {
                due(LONGS + 2, x.mean(0, what));
                due(LONGS + 2, x.mean(1, what));
            }
            dueCounts(x, 8, 8, 0, 0, 0, 0);
        }
    }

    private static void answers() {
        sentence("ANSWERS of WHO to the other's MIX of the TRAY.");
        GameTables x = gameOf(new int[][] {{2, 0}, {0, 2}, {1, 1}}, new int[][] {{0, 1}, {5, 5}, {-3, -4}});
        weigh(x, 1, 1, 1);
        due(7, x.answers(0));
        weigh(x, 1, 99, 98);
        due(1, x.answers(0));
        weigh(x, 1, 98, 99);
        due(2, x.answers(0));
        weigh(x, 0, 0, 1, 0);
        due(3, x.answers(1));
        weigh(x, 0, 1, 0, 0);
        due(2, x.answers(1));
        weigh(x, 0, 0, 0, 4);
        due(1, x.answers(1));
        weigh(x, 0, 1, 0, 1);
        due(3, x.answers(1));
        dueCounts(x, 0, 0, 0, 0, 0, 0);
    }

    private static void answersOfAll() {
        sentence("ANSWERS of WHO to the other's MIX of the TRAY.");
        GameTables x = new GameTables();
        x.weight(0, 0, 1);
        x.weight(1, 0, 1);
        due(1, x.answers(0));
        x.game(4, 3);
        due(15, x.answers(0));
        due(7, x.answers(1));
        // Also where all means are below 0, and where the greatest comes last.
        for (int i = 0; i < 4; i++) {
            x.pay(0, i, 0, i - 20);
        }
        due(8, x.answers(0));
        x.pay(0, 3, 0, -20);
        x.pay(0, 0, 0, -18);
        due(5, x.answers(0));
    }

    private static void answersRefused() {
        sentence("-1; -5.");
        GameTables x = new GameTables();
        x.game(2, 3);
        for (int who : new int[] {2, -1, MIN, MAX}) {
            due(-1, x.answers(who));
        }
        due(-5, x.answers(0));
        due(-5, x.answers(1));
        weigh(x, 0, 0, 0, 1, 1);
        weigh(x, 1, 0, 0, 0, 1);
        due(-5, x.answers(0));
        due(-5, x.answers(1));
        dueCounts(x, 4, 0, 0, 0, 4, 0);
    }

    private static void is() {
        sentence("Whether the MIXES of the TRAY are a BALANCE: 1; 0.");
        GameTables x = gameOf(new int[][] {{1, -1}, {-1, 1}}, new int[][] {{-1, 1}, {1, -1}});
        weigh(x, 0, 1, 1);
        weigh(x, 1, 7, 7);
        due(1, x.is());
        weigh(x, 1, 7, 6);
        due(0, x.is());
        weigh(x, 1, 99, 99);
        due(1, x.is());
        weigh(x, 0, 98, 99);
        due(0, x.is());
        weigh(x, 0, 1, 0);
        weigh(x, 1, 1, 0);
        due(0, x.is());
        x.pay(1, 0, 0, 1);
        due(1, x.is());
        dueCounts(x, 0, 0, 0, 0, 0, 0);
    }

    private static void isByEachOnesOwnPays() {
        sentence("Whether the MIXES of the TRAY are a BALANCE: 1; 0.");
        // One has all choices alike, the other a best one, which is no matter of the first one's pays.
        for (int who = 0; who < 2; who++) {
            for (int best = 0; best < 3; best++) {
                GameTables x = new GameTables();
                x.game(3, 3);
                for (int others = 0; others < 3; others++) {
                    x.pay(who, who == 0 ? best : others, who == 0 ? others : best, 1);
                }
                weigh(x, 1 - who, 1, 2, 3);
                for (int choice = 0; choice < 3; choice++) {
                    x.weight(who, choice, 1);
                    due(choice == best ? 1 : 0, x.is());
                    due(choice == best ? -9 : 10 * who + choice, x.why());
                    x.weight(who, choice, 0);
                }
            }
        }
    }

    private static void isWithoutMixes() {
        sentence("`int is()`: Whether the MIXES of the TRAY are a BALANCE: 1; 0. -5.");
        GameTables x = new GameTables();
        due(-5, x.is());
        x.weight(0, 0, 1);
        due(-5, x.is());
        x.weight(0, 0, 0);
        x.weight(1, 0, 1);
        due(-5, x.is());
        x.weight(0, 1, 1);
        due(-5, x.is());
        x.weight(0, 0, 1);
        due(1, x.is());
        dueCounts(x, 0, 0, 0, 0, 4, 0);
    }

    private static void why() {
        sentence("If they are none: 10 times WHO (ROW ahead of COLUMN) that has a SHARE above 0");
        GameTables x = gameOf(new int[][] {{1, -1}, {-1, 1}}, new int[][] {{-1, 1}, {1, -1}});
        weigh(x, 0, 1, 2);
        weigh(x, 1, 7, 7);
        // ROW's choices are all answers; COLUMN's 1 is worth less than 0.
        due(11, x.why());
        weigh(x, 0, 2, 1);
        due(10, x.why());
        weigh(x, 0, 1, 1);
        weigh(x, 1, 3, 7);
        due(0, x.why());
        weigh(x, 1, 7, 3);
        due(1, x.why());
        dueCounts(x, 0, 0, 0, 0, 0, 0);
    }

    private static void whyFirstChoice() {
        sentence("on a choice that is no ANSWER, and the first such choice;");
        GameTables x = new GameTables();
        x.game(4, 4);
        weigh(x, 0, 1, 1, 1, 1);
        weigh(x, 1, 1, 1, 1, 1);
        for (int choice = 0; choice < 4; choice++) {
            // Choices up to this one are answers, those behind are none.
            x.pay(0, choice, 0, 4);
            due(choice < 3 ? choice + 1 : -9, x.why());
        }
        for (int choice = 0; choice < 4; choice++) {
            x.pay(1, 0, choice, 4);
            due(choice < 3 ? choice + 11 : -9, x.why());
        }
        // A choice without a share is passed over, though it is no answer.
        x.pay(0, 1, 0, 0);
        x.pay(0, 3, 0, 0);
        due(1, x.why());
        x.weight(0, 1, 0);
        due(3, x.why());
        x.weight(0, 3, 0);
        due(-9, x.why());
        x.pay(1, 0, 0, 0);
        x.pay(1, 0, 3, 0);
        x.weight(1, 0, 0);
        due(13, x.why());
    }

    private static void whyRowAhead() {
        sentence("If they are none: 10 times WHO (ROW ahead of COLUMN) that has a SHARE above 0");
        GameTables x = new GameTables();
        x.game(4, 4);
        x.pay(0, 0, 0, 1);
        x.pay(1, 3, 1, 1);
        weigh(x, 0, 0, 0, 0, 1);
        weigh(x, 1, 1, 0, 0, 0);
        // ROW's last choice is told ahead of COLUMN's first.
        due(3, x.why());
        x.pay(0, 3, 0, 1);
        due(10, x.why());
        x.pay(1, 3, 0, 1);
        due(-9, x.why());
    }

    private static void whyWithout() {
        sentence("-9 if they are one, or there are not both.");
        GameTables x = new GameTables();
        x.game(2, 2);
        due(-9, x.why());
        x.weight(0, 0, 1);
        due(-9, x.why());
        x.weight(0, 0, 0);
        x.weight(1, 0, 1);
        due(-9, x.why());
        x.weight(0, 2, 1);
        due(-9, x.why());
        x.weight(0, 1, 1);
        due(-9, x.why());
        x.pay(0, 0, 0, 1);
        due(1, x.why());
        x.weight(1, 0, 0);
        due(-9, x.why());
        sentence("why() without both is -9;");
        dueCounts(x, 0, 0, 0, 0, 0, 0);
    }

    private static void worse() {
        sentence("The first choice of WHO by which one is WORSE; -9 without.");
        GameTables x = gameOf(new int[][] {{1, 2}, {2, 3}, {3, 4}, {3, 5}}, new int[][] {{0, 1}, {0, 1}, {0, 1}, {0, 0}});
        due(1, x.worse(0, 0));
        due(2, x.worse(0, 1));
        // As much against one choice is not more against each.
        due(-9, x.worse(0, 2));
        due(-9, x.worse(0, 3));
        due(-9, x.worse(1, 0));
        due(-9, x.worse(1, 1));
        x.pay(1, 3, 1, 1);
        due(1, x.worse(1, 0));
        due(-9, x.worse(1, 1));
        x.pay(1, 0, 0, 2);
        due(-9, x.worse(1, 0));
        dueCounts(x, 0, 0, 0, 0, 0, 0);
    }

    private static void worseFirst() {
        sentence("The first choice of WHO by which one is WORSE; -9 without.");
        GameTables x = gameOf(new int[][] {{2}, {3}, {4}, {1}}, new int[][] {{0}, {0}, {0}, {0}});
        due(1, x.worse(0, 0));
        due(2, x.worse(0, 1));
        due(-9, x.worse(0, 2));
        due(0, x.worse(0, 3));
        x.turn();
        due(1, x.worse(1, 0));
        due(2, x.worse(1, 1));
        due(-9, x.worse(1, 2));
        due(0, x.worse(1, 3));
    }

    private static void worseWithout() {
        sentence("The first choice of WHO by which one is WORSE; -9 without.");
        GameTables x = new GameTables();
        due(-9, x.worse(0, 0));
        due(-9, x.worse(1, 0));
        x.game(4, 4);
        for (int choice = 0; choice < 4; choice++) {
            due(-9, x.worse(0, choice));
            due(-9, x.worse(1, choice));
        }
        // The only choice of one's own, whatever it is paid.
        lay(x, new int[][] {{-20, -20}}, new int[][] {{1, 2}});
        due(-9, x.worse(0, 0));
        due(1, x.worse(1, 0));
        dueCounts(x, 0, 0, 0, 0, 0, 0);
    }

    private static void worseRefused() {
        sentence("worse(), find() are REFUSED by -1, -5 as they are.");
        GameTables x = new GameTables();
        x.game(4, 2);
        for (int who : new int[] {2, -1, MIN, MAX}) {
            due(-1, x.worse(who, 0));
        }
        for (int choice : new int[] {4, -1, MIN, MAX}) {
            due(-1, x.worse(0, choice));
        }
        for (int choice : new int[] {2, 3, 4, -1, MIN, MAX}) {
            due(-1, x.worse(1, choice));
        }
        sentence("The first choice of WHO by which one is WORSE; -9 without. -1.");
        due(-9, x.worse(0, 3));
        due(-9, x.worse(1, 1));
        dueCounts(x, 14, 0, 0, 0, 0, 0);
        due(-5, x.find());
        dueCounts(x, 14, 0, 0, 0, 1, 0);
    }

    private static void left() {
        sentence("What is left of WHO's choices by DROPPING, as bits.");
        // ROW's 2 goes, then COLUMN's 2, then ROW's 1, then COLUMN's 1.
        GameTables x = gameOf(
            new int[][] {{3, 2, 0}, {1, 1, 5}, {0, 0, -1}},
            new int[][] {{4, 3, 0}, {1, 3, 2}, {0, 0, 9}});
        due(1, x.left(0));
        due(1, x.left(1));
        // The game itself stays as it is.
        due(3, x.status(0));
        due(3, x.status(1));
        due(0, x.worse(0, 2));
        due(9, x.paid(1, 2, 2));
        x.game(4, 3);
        due(15, x.left(0));
        due(7, x.left(1));
        x.pay(0, 0, 0, -1);
        x.pay(0, 0, 1, -1);
        due(15, x.left(0));
        x.pay(0, 0, 2, -1);
        due(14, x.left(0));
        due(7, x.left(1));
    }

    private static void leftRefused() {
        sentence("`int left(int who)`: What is left of WHO's choices by DROPPING, as bits. -1.");
        GameTables x = new GameTables();
        for (int who : new int[] {2, -1, MIN, MAX}) {
            due(-1, x.left(who));
        }
        dueCounts(x, 4, 0, 0, 0, 0, 0);
    }

    private static void times() {
        sentence("How many times DROPPING took choices away.");
        GameTables x = new GameTables();
        due(0, x.times());
        x.game(4, 4);
        due(0, x.times());
        // One, then one of the other's that is worse only then.
        lay(x, new int[][] {{1, 1}, {0, 0}}, new int[][] {{1, 0}, {0, 0}});
        due(2, x.times());
        due(1, x.left(0));
        due(1, x.left(1));
        x.pay(0, 1, 1, 1);
        due(0, x.times());
    }

    private static void timesMost() {
        sentence("How many times DROPPING took choices away.");
        // As often as can be: ROW's 3, COLUMN's 3, ROW's 2 and so on, one by one.
        GameTables x = gameOf(
            new int[][] {{0, 10, 0, 0}, {-1, -1, 10, -1}, {-2, -2, -2, 10}, {-3, -3, -3, -3}},
            new int[][] {{10, -1, -2, -3}, {0, 10, -2, -3}, {0, -1, 10, -3}, {0, -1, -2, 10}});
        due(6, x.times());
        due(1, x.left(0));
        due(1, x.left(1));
        x.turn();
        due(6, x.times());
    }

    private static void sure() {
        sentence("`int sure(int who)`: SURE of WHO.");
        GameTables x = gameOf(new int[][] {{5, -3, 2}, {1, 0, -1}}, new int[][] {{-20, 4, 1}, {7, -2, 2}});
        due(-1, x.sure(0));
        due(1, x.sure(1));
        lay(x, new int[][] {{-20, 20}}, new int[][] {{20, -20}});
        due(-20, x.sure(0));
        due(20, x.sure(1));
        lay(x, new int[][] {{-20}, {-20}, {-20}, {-19}}, new int[][] {{3}, {2}, {4}, {1}});
        due(-19, x.sure(0));
        due(1, x.sure(1));
        dueCounts(x, 0, 0, 0, 0, 0, 0);
    }

    private static void sureRefused() {
        sentence("`int sure(int who)`: SURE of WHO. Refused as told: -1.");
        GameTables x = new GameTables();
        for (int who : new int[] {2, -1, MIN, MAX}) {
            due(PAYS + 1, x.sure(who));
        }
        dueCounts(x, 4, 0, 0, 0, 0, 0);
    }

    private static void hold() {
        sentence("`int hold(int who)`: HOLD of WHO.");
        GameTables x = gameOf(new int[][] {{5, -3, 2}, {1, 0, -1}}, new int[][] {{-20, 4, 1}, {7, -2, 2}});
        due(0, x.hold(0));
        due(4, x.hold(1));
        lay(x, new int[][] {{-20, 20}}, new int[][] {{20, -20}});
        due(-20, x.hold(0));
        due(20, x.hold(1));
        lay(x, new int[][] {{-20}, {-20}, {-20}, {-19}}, new int[][] {{3}, {2}, {4}, {1}});
        due(-19, x.hold(0));
        due(1, x.hold(1));
        dueCounts(x, 0, 0, 0, 0, 0, 0);
    }

    private static void holdRefused() {
        sentence("`int hold(int who)`: HOLD of WHO. Refused as told: -1.");
        GameTables x = new GameTables();
        for (int who : new int[] {2, -1, MIN, MAX}) {
            due(PAYS + 1, x.hold(who));
        }
        dueCounts(x, 4, 0, 0, 0, 0, 0);
    }
}
