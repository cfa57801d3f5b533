/** What stands under "Terms" but for the refusals: the game, the tray, fractions, what is said once more. */
public final class TermsTest extends Checks {
    public static void main(String[] args) {
        choices();
        pays();
        who();
        sharesMakeOne();
        weights();
        mixOfTheTray();
        noMix();
        meanOfAllTwoChoices();
        greatestMeans();
        balanceOfUsedChoices();
        worseAgainstEach();
        droppingByWhatIsLeft();
        droppingAtOnce();
        droppingTillNone();
        sure();
        hold();
        fractionsInLeastTerms();
        fractionsBelowNothing();
        fractionsOfNothing();
        timesCountsRounds();
        statusIsTheSum();
        sharesInLeastTerms();
        answersAskTheOthersMix();
        worseGoesByTheWholeGame();
        weightTakesAllChoices();
        raiseAndScaleAskThePaysAlone();
        cornerWantsTheChoice();
        end();
    }

    private static void choices() {
        sentence("A GAME has ROW's choices 0 .. m - 1 and COLUMN's 0 .. n - 1 (m, n 1 ..");
        GameTables x = new GameTables();
        x.game(4, 3);
        due(0, x.paid(0, 3, 2));
        due(PAYS + 1, x.paid(0, 4, 2));
        due(PAYS + 1, x.paid(0, 3, 3));
        due(-9, x.worse(0, 3));
        due(-1, x.worse(1, 3));
        due(-9, x.worse(1, 2));
        due(1, x.corner(0, 3, 3, 0));
        due(-1, x.corner(0, 3, 4, 0));
        due(-1, x.corner(1, 2, 3, 0));
        sentence("4; 1 at first)");
        due(1, x.game(4, 4));
        due(1, x.game(1, 1));
        due(-4, x.game(0, 1));
        due(-4, x.game(1, 0));
        due(-6, x.game(5, 4));
        due(-6, x.game(4, 5));
        due(1, new GameTables().status(0));
        due(1, new GameTables().status(1));
    }

    private static void pays() {
        sentence("and two tables of PAYS -20 .. 20 (0 at first): what ROW, and what COLUMN gets for each two choices.");
        GameTables x = new GameTables();
        due(0, x.paid(0, 0, 0));
        due(0, x.paid(1, 0, 0));
        for (int v = -20; v <= 20; v++) {
            x.pay(0, 0, 0, v);
            x.pay(1, 0, 0, -v);
            due(v, x.paid(0, 0, 0));
            due(-v, x.paid(1, 0, 0));
        }
        due(PAYS + 4, x.pay(0, 0, 0, -21));
        due(PAYS + 6, x.pay(0, 0, 0, 21));
    }

    private static void who() {
        sentence("WHO is 0 for ROW, 1 for COLUMN.");
        GameTables x = gameOf(new int[][] {{1, 2}}, new int[][] {{3, 4}});
        due(2, x.paid(0, 0, 1));
        due(4, x.paid(1, 0, 1));
        due(1, x.sure(0));
        due(4, x.sure(1));
        due(1, x.corners(0));
        due(2, x.corners(1));
        due(1, x.left(0));
        due(2, x.left(1));
        x.weight(0, 0, 5);
        due(2, x.answers(1));
        due(-5, x.answers(0));
        due(-9, x.worse(0, 0));
        due(1, x.worse(1, 0));
    }

    private static void sharesMakeOne() {
        sentence("A MIX of one gives each choice a SHARE, a fraction 0 or above, 1 together.");
        GameTables x = gameOf(
            new int[][] {{7, -3, 4, 0}, {-2, 8, 1, 5}, {3, 3, -9, 6}},
            new int[][] {{1, 5, -7, 2}, {6, -4, 0, 3}, {-8, 2, 9, 1}});
        for (int who = 0; who < 2; who++) {
            int count = x.corners(who);
            for (int c = 0; c < count; c++) {
                Fraction sum = Fraction.ZERO;
                for (int choice = 0; choice < 3 + who; choice++) {
                    int top = x.corner(who, c, choice, 0);
                    due(1, top >= 0 ? 1 : 0);
                    sum = sum.plus(Fraction.of(top).by(Fraction.of(x.corner(who, c, choice, 1))));
                }
                due(0, sum.compareTo(Fraction.ONE));
            }
        }
    }

    private static void weights() {
        sentence("THE TRAY has a weight 0 .. 99 of each choice 0 .. 3 of both (0 at first):");
        GameTables x = new GameTables();
        for (int place = 0; place < 8; place++) {
            int who = place / 4;
            int choice = place % 4;
            due(0, x.weight(who, choice, 99));
            due(-6, x.weight(who, choice, 100));
            due(-4, x.weight(who, choice, -1));
            due(99, x.weight(who, choice, 0));
            due(0, x.weight(who, choice, 0));
        }
        due(-1, x.weight(0, 4, 0));
        due(-1, x.weight(1, -1, 0));
    }

    private static void mixOfTheTray() {
        sentence("WHO's MIX of it gives each choice its weight divided by the sum of WHO's weights of the choices there are;");
        // ROW's pay is its own choice's number, so its mean tells how the shares lie.
        GameTables x = gameOf(new int[][] {{0}, {1}, {2}}, new int[][] {{0}, {0}, {0}});
        weigh(x, 0, 1, 2, 4, 99);
        weigh(x, 1, 3, 99, 99, 99);
        due(10, x.mean(0, 0));
        due(7, x.mean(0, 1));
        // The same weights in a greater game: all of them count.
        x.game(4, 1);
        x.pay(0, 3, 0, 1);
        due(99, x.mean(0, 0));
        due(106, x.mean(0, 1));
        // And in a smaller one.
        x.game(1, 1);
        x.pay(0, 0, 0, -4);
        due(-4, x.mean(0, 0));
        due(1, x.mean(0, 1));
    }

    private static void noMix() {
        sentence("without any above 0 there is none.");
        for (int who = 0; who < 2; who++) {
            GameTables x = new GameTables();
            x.game(3, 3);
            x.weight(1 - who, 2, 1);
            due(-5, x.answers(1 - who));
            due(-5, x.is());
            // Above 0 alone where there is no choice.
            x.weight(who, 3, 99);
            due(-5, x.answers(1 - who));
            due(LONGS + 5, x.mean(0, 0));
            due(-9, x.why());
            due(-5, x.find());
            x.weight(who, 2, 1);
            due(7, x.answers(1 - who));
            due(1, x.is());
            x.weight(who, 2, 0);
            due(-5, x.is());
            // There, as soon as the game has it.
            x.game(4, 4);
            due(1, x.is());
        }
    }

    private static void meanOfAllTwoChoices() {
        sentence("MEAN of WHO, with two MIXES: the sum over all two choices of both SHARES times WHO's PAY.");
        GameTables x = new GameTables();
        x.game(4, 4);
        weigh(x, 0, 1, 2, 3, 5);
        weigh(x, 1, 7, 1, 4, 1);
        int[] rows = {1, 2, 3, 5};
        int[] columns = {7, 1, 4, 1};
        long sum = 0;
        for (int place = 0; place < 16; place++) {
            x.pay(1, place / 4, place % 4, place - 8);
            sum += (place - 8) * rows[place / 4] * columns[place % 4];
            // 11 * 13, of which the sums so far may have a factor.
            Fraction mean = Fraction.of(sum).by(Fraction.of(11 * 13));
            due(mean.part(0), x.mean(1, 0));
            due(mean.part(1), x.mean(1, 1));
            due(0, x.mean(0, 0));
        }
    }

    private static void greatestMeans() {
        sentence("ANSWERS of WHO to the other's MIX: the choices with the greatest MEAN");
        GameTables x = new GameTables();
        x.game(4, 4);
        weigh(x, 1, 1, 1, 1, 1);
        sentence("(with that choice alone and the other's MIX), as bits.");
        for (int bits = 1; bits < 16; bits++) {
            for (int choice = 0; choice < 4; choice++) {
                x.pay(0, choice, 3, bits >> choice & 1);
            }
            due(bits, x.answers(0));
        }
    }

    private static void balanceOfUsedChoices() {
        sentence("Two MIXES are a BALANCE if each choice with a SHARE above 0 of each is one of its ANSWERS to the other's.");
        GameTables x = gameOf(new int[][] {{2, 2}, {2, 2}, {1, 1}}, new int[][] {{0, 0}, {0, 0}, {0, 0}});
        weigh(x, 0, 0, 99, 0);
        weigh(x, 1, 1, 98);
        due(1, x.is());
        weigh(x, 0, 98, 1, 0);
        due(1, x.is());
        // The least share of one that is no answer spoils it.
        weigh(x, 0, 99, 99, 1);
        due(0, x.is());
        weigh(x, 0, 99, 99, 0, 99);
        due(1, x.is());
        x.pay(1, 0, 1, 1);
        due(0, x.is());
        weigh(x, 1, 0, 1);
        due(1, x.is());
    }

    private static void worseAgainstEach() {
        sentence("WORSE is a choice of WHO if another one of WHO's pays WHO more against each choice of the other's.");
        for (int other = 0; other < 4; other++) {
            GameTables x = new GameTables();
            x.game(2, 4);
            for (int k = 0; k < 4; k++) {
                x.pay(0, 1, k, 1);
            }
            due(1, x.worse(0, 0));
            due(-9, x.worse(0, 1));
            // One that pays as much is enough.
            x.pay(0, 1, other, 0);
            due(-9, x.worse(0, 0));
            x.pay(0, 1, other, -1);
            due(-9, x.worse(0, 0));
            x.pay(0, 0, other, -2);
            due(1, x.worse(0, 0));
        }
    }

    private static void droppingByWhatIsLeft() {
        sentence("DROPPING: again and again of what is left the WORSE choices");
        // ROW's 0 is worse only when COLUMN's 1 has gone.
        GameTables x = gameOf(new int[][] {{0, 9}, {1, 0}}, new int[][] {{1, 0}, {1, 0}});
        due(2, x.left(0));
        due(1, x.left(1));
        due(2, x.times());
        sentence("(against those of the other's that are left, by those of WHO's that are left) go,");
        due(-9, x.worse(0, 0));
        x.turn();
        due(1, x.left(0));
        due(2, x.left(1));
        due(2, x.times());
    }

    private static void droppingAtOnce() {
        sentence("all of ROW's and COLUMN's that are so at once, till there are none.");
        GameTables x = gameOf(new int[][] {{3, 0}, {5, 1}}, new int[][] {{3, 5}, {0, 1}});
        due(1, x.times());
        due(2, x.left(0));
        due(2, x.left(1));
        // Three of one at once, each by another.
        lay(x, new int[][] {{1}, {3}, {2}, {4}}, new int[][] {{0}, {0}, {0}, {0}});
        due(1, x.times());
        due(8, x.left(0));
        due(1, x.left(1));
        // ROW's 0 against both of COLUMN's first: it goes a round behind COLUMN's 1, not with it.
        lay(x, new int[][] {{0, 2}, {1, 1}}, new int[][] {{1, 0}, {1, 0}});
        due(2, x.times());
    }

    private static void droppingTillNone() {
        sentence("all of ROW's and COLUMN's that are so at once, till there are none.");
        // The last choices stay, whatever they pay.
        GameTables x = gameOf(new int[][] {{-20}}, new int[][] {{-20}});
        due(1, x.left(0));
        due(1, x.left(1));
        due(0, x.times());
        // As much is not worse: both stay.
        lay(x, new int[][] {{-20, 1}, {-20, 1}}, new int[][] {{1, 1}, {1, 1}});
        due(3, x.left(0));
        due(3, x.left(1));
        due(0, x.times());
    }

    private static void sure() {
        sentence("SURE of WHO by single choices: the greatest, over WHO's choices, of the least PAY of WHO;");
        // The even mix would make 0 sure.
        GameTables x = gameOf(new int[][] {{1, -1}, {-1, 1}}, new int[][] {{-1, 1}, {1, -1}});
        due(-1, x.sure(0));
        due(-1, x.sure(1));
        lay(x, new int[][] {{0, 5, 9}, {2, 1, 3}}, new int[][] {{0, 5, 9}, {2, 6, 3}});
        due(1, x.sure(0));
        due(5, x.sure(1));
    }

    private static void hold() {
        sentence("HOLD: the least, over the other's choices, of WHO's greatest PAY.");
        GameTables x = gameOf(new int[][] {{1, -1}, {-1, 1}}, new int[][] {{-1, 1}, {1, -1}});
        due(1, x.hold(0));
        due(1, x.hold(1));
        lay(x, new int[][] {{0, 5, 9}, {2, 1, 3}}, new int[][] {{0, 5, 9}, {2, 6, 3}});
        due(2, x.hold(0));
        due(6, x.hold(1));
    }

    private static void fractionsInLeastTerms() {
        sentence("FRACTIONS are told as numerator and denominator, without common factor, the denominator above 0.");
        GameTables x = new GameTables();
        x.game(4, 4);
        weigh(x, 0, 99, 98, 97, 95);
        weigh(x, 1, 99, 99, 98, 97);
        x.pay(0, 0, 0, 1);
        // 99 * 99 of 389 * 393, which have 3 in common.
        due(3267, x.mean(0, 0));
        due(50959, x.mean(0, 1));
        // All weights the greatest, all pays the greatest: 20 by 1.
        weigh(x, 0, 99, 99, 99, 99);
        weigh(x, 1, 99, 99, 99, 99);
        for (int place = 0; place < 16; place++) {
            x.pay(0, place / 4, place % 4, 20);
            x.pay(1, place / 4, place % 4, -20);
        }
        due(20, x.mean(0, 0));
        due(1, x.mean(0, 1));
        due(-20, x.mean(1, 0));
        due(1, x.mean(1, 1));
    }

    private static void fractionsBelowNothing() {
        sentence("FRACTIONS are told as numerator and denominator, without common factor, the denominator above 0.");
        GameTables x = gameOf(new int[][] {{-3, 0}, {0, -6}}, new int[][] {{-1, -2}, {-2, -1}});
        weigh(x, 0, 2, 2);
        weigh(x, 1, 1, 3);
        due(-21, x.mean(0, 0));
        due(8, x.mean(0, 1));
        due(-3, x.mean(1, 0));
        due(2, x.mean(1, 1));
        // ROW's choices are both worth -2 against 2/3 and 1/3, COLUMN's -3/2 against 1/2 and 1/2.
        due(1, x.balances());
        dueBalance(x, 0, 1, 1, 2, -2, 1, -3, 2);
    }

    private static void fractionsOfNothing() {
        sentence("FRACTIONS are told as numerator and denominator, without common factor, the denominator above 0.");
        GameTables x = gameOf(new int[][] {{7, -7}}, new int[][] {{0, 0}});
        weigh(x, 0, 5);
        weigh(x, 1, 9, 9);
        due(0, x.mean(0, 0));
        due(1, x.mean(0, 1));
        due(0, x.mean(1, 0));
        due(1, x.mean(1, 1));
    }

    private static void timesCountsRounds() {
        sentence("Said once more: times() counts rounds;");
        GameTables x = gameOf(new int[][] {{1, 1, 1}, {2, 2, 2}, {3, 3, 3}}, new int[][] {{3, 2, 1}, {3, 2, 1}, {3, 2, 1}});
        due(1, x.times());
        due(4, x.left(0));
        due(1, x.left(1));
    }

    private static void statusIsTheSum() {
        sentence("status(4) is the sum of both;");
        GameTables x = gameOf(new int[][] {{3, 1}, {0, 2}, {-9, -9}}, new int[][] {{2, 1}, {0, 3}, {0, 1}});
        due(x.corners(0) + x.corners(1), x.status(4));
        x.game(4, 2);
        due(6, x.status(4));
        x.turn();
        due(6, x.status(4));
    }

    private static void sharesInLeastTerms() {
        sentence("SHARES are each in least terms (0 by 1);");
        // 1/2, 1/3 and 1/6, and no share of the last.
        GameTables x = gameOf(new int[4][3], new int[][] {{2, 0, 0}, {0, 3, 0}, {0, 0, 6}, {-9, -9, -9}});
        int count = x.corners(0);
        int found = 0;
        for (int c = 0; c < count; c++) {
            if (x.corner(0, c, 0, 2) == 7 && x.corner(0, c, 3, 0) == 0) {
                found++;
                dueCorner(x, 0, c, 7, 1, 2, 1, 3, 1, 6, 0, 1);
            }
        }
        due(1, found);
    }

    private static void answersAskTheOthersMix() {
        sentence("answers() asks the other's MIX alone;");
        for (int who = 0; who < 2; who++) {
            GameTables x = new GameTables();
            x.game(2, 2);
            x.weight(1 - who, 0, 1);
            due(3, x.answers(who));
            due(-5, x.answers(1 - who));
            x.weight(who, 1, 1);
            due(3, x.answers(1 - who));
        }
    }

    private static void worseGoesByTheWholeGame() {
        sentence("worse() goes by the whole GAME;");
        // COLUMN's 1 goes by dropping, yet against it ROW's 0 pays more.
        GameTables x = gameOf(new int[][] {{0, 9}, {1, 0}}, new int[][] {{1, 0}, {1, 0}});
        due(2, x.left(0));
        due(-9, x.worse(0, 0));
        // ROW's 1 goes itself, yet it is the first by which 0 is worse.
        lay(x, new int[][] {{0}, {1}, {2}}, new int[][] {{0}, {0}, {0}});
        due(4, x.left(0));
        due(1, x.worse(0, 0));
    }

    private static void weightTakesAllChoices() {
        sentence("weight() takes choices 0 .. 3 always;");
        for (int size = 1; size <= 4; size++) {
            GameTables x = new GameTables();
            x.game(size, 5 - size);
            for (int place = 0; place < 8; place++) {
                due(0, x.weight(place / 4, place % 4, 99));
            }
            due(-1, x.weight(0, 4, 0));
            due(-1, x.weight(1, 4, 0));
            due(-1, x.weight(0, -1, 0));
        }
    }

    private static void raiseAndScaleAskThePaysAlone() {
        sentence("raise(), scale(): what PAYS would be alone;");
        GameTables x = gameOf(new int[][] {{-20, 0}, {-20, 0}}, new int[][] {{0, 0}, {0, 0}});
        // v itself has no bound but what the pays would be.
        due(1, x.raise(0, 0, 21));
        due(1, x.raise(0, 0, 19));
        due(1, x.raise(0, 0, -40));
        due(-6, x.raise(0, 0, 41));
        due(-4, x.raise(0, 0, -1));
        due(1, x.scale(1, 21));
        due(1, x.scale(1, 1000000));
        due(1, x.scale(1, MAX));
        due(0, x.paid(1, 1, 1));
        due(-4, x.scale(1, 0));
        // The pays of a game that is gone are no longer asked.
        x.game(1, 1);
        due(1, x.scale(0, MAX));
    }

    private static void cornerWantsTheChoice() {
        sentence("corner(): the choice must be there for each what;");
        GameTables x = new GameTables();
        x.game(2, 3);
        for (int what = 0; what < 3; what++) {
            due(-1, x.corner(0, 0, 2, what));
            due(-1, x.corner(0, 0, -1, what));
            due(-1, x.corner(1, 0, 3, what));
        }
        due(7, x.corner(0, 0, 1, 2));
        due(3, x.corner(1, 0, 2, 2));
        dueCounts(x, 9, 0, 0, 0, 0, 0);
    }
}
