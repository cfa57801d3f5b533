/**
 * Games of two who choose unseen by each other and are paid by two tables, told exactly.
 *
 * Both players are held alike, each seeing the game from his own side (his choice first, the
 * other's second), so that one piece of code serves both and turn() only swaps the two.
 */
public final class GameTables {
    private static final int MOST_CHOICES = 4;
    private static final int MOST_PAY = 20;
    private static final int MOST_WEIGHT = 99;

    private static final int NOBODY = -1;
    private static final int OTHER = -2;
    private static final int BELOW = -4;
    private static final int STATE = -5;
    private static final int ROOM = -6;
    private static final int NONE = -9;
    private static final int LAST_REFUSAL = 6;

    /** Pays may be below 0, so their refusals are told far outside of them. */
    private static final int AMONG_PAYS = 1000000000;
    private static final long AMONG_LONGS = 4000000000000000000L;

    /** Pairs of equally many choices of both, C(8, 4) - 1: no more corners can be found. */
    private static final int MOST_CORNERS = 69;

    private static final int FIRST_COUNT = 10;

    private Player row = new Player();
    private Player column = new Player();
    private final Dropping dropping = new Dropping();
    private final int[] refusals = new int[LAST_REFUSAL + 1];
    private boolean cornersKnown = false;

    public GameTables() {
    }

    public int game(int m, int n) {
        if (m < 1 || n < 1) {
            return refuse(BELOW);
        }
        if (m > MOST_CHOICES || n > MOST_CHOICES) {
            return refuse(ROOM);
        }
        row.startAnew(m);
        column.startAnew(n);
        cornersKnown = false;
        return 1;
    }

    public int pay(int who, int i, int k, int v) {
        if (!isPlace(who, i, k)) {
            return refuseAmongPays(NOBODY);
        }
        if (v < -MOST_PAY) {
            return refuseAmongPays(BELOW);
        }
        if (v > MOST_PAY) {
            return refuseAmongPays(ROOM);
        }
        int own = who == 0 ? i : k;
        int others = who == 0 ? k : i;
        int before = player(who).payFor(own, others);
        player(who).setPay(own, others, v);
        cornersKnown = false;
        return before;
    }

    public int paid(int who, int i, int k) {
        if (!isPlace(who, i, k)) {
            return refuseAmongPays(NOBODY);
        }
        return who == 0 ? row.payFor(i, k) : column.payFor(k, i);
    }

    public int weight(int who, int choice, int v) {
        if (!isWho(who) || choice < 0 || choice >= MOST_CHOICES) {
            return refuse(NOBODY);
        }
        if (v < 0) {
            return refuse(BELOW);
        }
        if (v > MOST_WEIGHT) {
            return refuse(ROOM);
        }
        return player(who).changeWeight(choice, v);
    }

    public long mean(int who, int what) {
        if (!isWho(who)) {
            return refuseAmongLongs(NOBODY);
        }
        if (what < 0 || what > 1) {
            return refuseAmongLongs(OTHER);
        }
        Mix own = trayOf(who);
        Mix others = trayOf(1 - who);
        if (own == null || others == null) {
            return refuseAmongLongs(STATE);
        }
        return player(who).meanPart(own, others, what);
    }

    public int answers(int who) {
        if (!isWho(who)) {
            return refuse(NOBODY);
        }
        Mix others = trayOf(1 - who);
        return others == null ? refuse(STATE) : others.answerBits;
    }

    public int is() {
        Mix rows = trayOf(0);
        Mix columns = trayOf(1);
        if (rows == null || columns == null) {
            return refuse(STATE);
        }
        return rows.fits(columns) ? 1 : 0;
    }

    public int why() {
        Mix rows = trayOf(0);
        Mix columns = trayOf(1);
        if (rows == null || columns == null) {
            return NONE;
        }
        int rowsFault = firstOf(rows.used & ~columns.answerBits);
        if (rowsFault != NONE) {
            return rowsFault;
        }
        int columnsFault = firstOf(columns.used & ~rows.answerBits);
        return columnsFault == NONE ? NONE : 10 + columnsFault;
    }

    public int worse(int who, int choice) {
        if (!isWho(who) || !player(who).hasChoice(choice)) {
            return refuse(NOBODY);
        }
        return player(who).firstBetter(choice, player(who).allBits(), player(1 - who).allBits());
    }

    public int left(int who) {
        if (!isWho(who)) {
            return refuse(NOBODY);
        }
        dropping.run(row, column);
        return who == 0 ? dropping.rowsLeft : dropping.columnsLeft;
    }

    public int times() {
        dropping.run(row, column);
        return dropping.rounds;
    }

    public int sure(int who) {
        if (!isWho(who)) {
            return refuseAmongPays(NOBODY);
        }
        return player(who).surePay(player(1 - who).choices);
    }

    public int hold(int who) {
        if (!isWho(who)) {
            return refuseAmongPays(NOBODY);
        }
        return player(who).holdPay(player(1 - who).choices);
    }

    public int corners(int who) {
        if (!isWho(who)) {
            return refuse(NOBODY);
        }
        knowCorners();
        return player(who).ownCorners.count;
    }

    public int corner(int who, int c, int choice, int what) {
        if (!isWho(who) || !player(who).hasChoice(choice)) {
            return refuse(NOBODY);
        }
        knowCorners();
        Mix mix = player(who).ownCorners.mixAt(c);
        if (mix == null) {
            return refuse(NOBODY);
        }
        if (what < 0 || what > 2) {
            return refuse(OTHER);
        }
        return what == 2 ? mix.answerBits : (int) lowest(mix.parts[choice], mix.total, what);
    }

    public int balances() {
        knowCorners();
        return balancesBefore(MOST_CORNERS, 0);
    }

    public long balance(int b, int what) {
        knowCorners();
        int pair = pairOf(b);
        if (pair == NONE) {
            return refuseAmongLongs(NOBODY);
        }
        Mix rows = row.ownCorners.mixAt(pair / MOST_CORNERS);
        Mix columns = column.ownCorners.mixAt(pair % MOST_CORNERS);
        if (rows == null || columns == null) {
            return refuseAmongLongs(NOBODY);
        }
        if (what < 0 || what > 6) {
            return refuseAmongLongs(OTHER);
        }
        switch (what) {
            case 0:
                return pair / MOST_CORNERS;
            case 1:
                return pair % MOST_CORNERS;
            case 2:
                return kindOf(rows, columns);
            case 3:
            case 4:
                return row.meanPart(rows, columns, what - 3);
            default:
                return column.meanPart(columns, rows, what - 5);
        }
    }

    public int find() {
        Mix rows = trayOf(0);
        Mix columns = trayOf(1);
        if (rows == null || columns == null) {
            return refuse(STATE);
        }
        knowCorners();
        int rowsCorner = row.ownCorners.numberOf(rows);
        int columnsCorner = column.ownCorners.numberOf(columns);
        if (rowsCorner == NONE || columnsCorner == NONE || !rows.fits(columns)) {
            return NONE;
        }
        return balancesBefore(rowsCorner, columnsCorner);
    }

    public int turn() {
        Player wasRow = row;
        row = column;
        column = wasRow;
        return 1;
    }

    public int raise(int who, int choice, int v) {
        if (!isWho(who) || !player(1 - who).hasChoice(choice)) {
            return refuse(NOBODY);
        }
        Player raised = player(who);
        // In longs, for v may be any int.
        if ((long) raised.leastAgainst(choice) + v < -MOST_PAY) {
            return refuse(BELOW);
        }
        if ((long) raised.mostAgainst(choice) + v > MOST_PAY) {
            return refuse(ROOM);
        }
        raised.addAgainst(choice, v);
        cornersKnown = false;
        return 1;
    }

    public int scale(int who, int v) {
        if (!isWho(who)) {
            return refuse(NOBODY);
        }
        if (v < 1) {
            return refuse(BELOW);
        }
        // In longs, for v may be any int.
        if ((long) player(who).farthestPay() * v > MOST_PAY) {
            return refuse(ROOM);
        }
        player(who).multiplyPays(v);
        cornersKnown = false;
        return 1;
    }

    public int status(int what) {
        switch (what) {
            case 0:
                return row.choices;
            case 1:
                return column.choices;
            case 2:
                return row.takesFrom(column) ? 1 : 0;
            case 3:
                return row.isLike(column) ? 1 : 0;
            case 4:
                knowCorners();
                return row.ownCorners.count + column.ownCorners.count;
            default:
                return refusalsCounted(what);
        }
    }

    private int refusalsCounted(int what) {
        if (what <= FIRST_COUNT || what > FIRST_COUNT + LAST_REFUSAL) {
            return NONE;
        }
        return refusals[what - FIRST_COUNT];
    }

    private int refuse(int number) {
        if (number < 0 && number >= -LAST_REFUSAL) {
            refusals[-number]++;
        }
        return number;
    }

    private int refuseAmongPays(int number) {
        return AMONG_PAYS - refuse(number);
    }

    private long refuseAmongLongs(int number) {
        return AMONG_LONGS - refuse(number);
    }

    private static boolean isWho(int who) {
        return who == 0 || who == 1;
    }

    private boolean isPlace(int who, int i, int k) {
        return isWho(who) && row.hasChoice(i) && column.hasChoice(k);
    }

    private Player player(int who) {
        return who == 0 ? row : column;
    }

    /** The mix that the tray has of who, null if it has none. */
    private Mix trayOf(int who) {
        return player(who).trayMix(player(1 - who));
    }

    /** To be called ahead of all that looks at corners: they are searched when first asked for. */
    private void knowCorners() {
        if (!cornersKnown) {
            row.ownCorners.searchAll(row.allBits(), column);
            column.ownCorners.searchAll(column.allBits(), row);
            cornersKnown = true;
        }
    }

    /** How many balances are numbered ahead of the one that these two corners would be. */
    private int balancesBefore(int rowsCorner, int columnsCorner) {
        int number = 0;
        for (int r = 0; r < row.ownCorners.count && r <= rowsCorner; r++) {
            int end = r < rowsCorner ? MOST_CORNERS : columnsCorner;
            number += balancesOf(row.ownCorners.mixAt(r), end);
        }
        return number;
    }

    /** How many of COLUMN's corners ahead of end make a balance with this mix of ROW's. */
    private int balancesOf(Mix rows, int end) {
        Corners columns = column.ownCorners;
        int number = 0;
        for (int c = 0; c < columns.count && c < end; c++) {
            Mix mix = columns.mixAt(c);
            if (rows != null && mix != null && rows.fits(mix)) {
                number++;
            }
        }
        return number;
    }

    /** ROW's corner times MOST_CORNERS, and COLUMN's, of a balance; NONE without such a one. */
    private int pairOf(int b) {
        int ahead = 0;
        for (int r = 0; r < row.ownCorners.count && ahead <= b; r++) {
            Mix rows = row.ownCorners.mixAt(r);
            for (int c = 0; c < column.ownCorners.count && ahead <= b; c++) {
                Mix columns = column.ownCorners.mixAt(c);
                if (rows != null && columns != null && rows.fits(columns)) {
                    if (ahead == b) {
                        return r * MOST_CORNERS + c;
                    }
                    ahead++;
                }
            }
        }
        return NONE;
    }

    private int kindOf(Mix rows, Mix columns) {
        int rowsUsed = Integer.bitCount(rows.used);
        int columnsUsed = Integer.bitCount(columns.used);
        if (rowsUsed == 1 && columnsUsed == 1) {
            boolean firm = rows.used == columns.answerBits && columns.used == rows.answerBits;
            return firm ? 4 : 3;
        }
        if (rowsUsed == row.choices && columnsUsed == column.choices) {
            return 2;
        }
        return rowsUsed == columnsUsed ? 1 : 0;
    }

    private static boolean hasBit(int bits, int choice) {
        return (bits >> choice & 1) == 1;
    }

    private static int firstOf(int bits) {
        for (int choice = 0; choice < MOST_CHOICES; choice++) {
            if (hasBit(bits, choice)) {
                return choice;
            }
        }
        return NONE;
    }

    /** Of top / bottom in least terms the numerator (what 0) or the denominator (what 1). */
    private static long lowest(long top, long bottom, int what) {
        long common = commonFactor(Math.abs(top), bottom);
        if (common <= 0) {
            return 0;
        }
        return what == 0 ? top / common : bottom / common;
    }

    private static long commonFactor(long a, long b) {
        long greater = a;
        long rest = b;
        // Two longs are at their common factor after fewer than 100 such steps.
        for (int step = 0; step < 100 && rest != 0; step++) {
            long next = greater % rest;
            greater = rest;
            rest = next;
        }
        return greater;
    }

    /** Shares of choices over a common denominator, with the other's answers to them. */
    private static final class Mix {
        final long[] parts = new long[MOST_CHOICES];
        long total;
        int used;
        int answerBits;

        /** To be called when the parts are laid. */
        void sumUp() {
            total = 0;
            used = 0;
            for (int choice = 0; choice < MOST_CHOICES; choice++) {
                total += parts[choice];
                if (parts[choice] > 0) {
                    used |= 1 << choice;
                }
            }
        }

        /** Below 0 if this one is numbered ahead of that one, 0 if they are the same mix. */
        int orderTo(Mix that) {
            for (int choice = 0; choice < MOST_CHOICES; choice++) {
                long here = parts[choice] * that.total;
                long there = that.parts[choice] * total;
                if (here != there) {
                    return here > there ? -1 : 1;
                }
            }
            return 0;
        }

        boolean fits(Mix that) {
            return (used & ~that.answerBits) == 0 && (that.used & ~answerBits) == 0;
        }
    }

    /** One of the two, with the game as he sees it: his own choice ahead of the other's. */
    private static final class Player {
        int choices = 1;
        final Corners ownCorners = new Corners();
        /** Those of choices that are not there are 0. */
        private final int[] pays = new int[MOST_CHOICES * MOST_CHOICES];
        private final int[] weights = new int[MOST_CHOICES];
        private final Mix tray = new Mix();

        void startAnew(int newChoices) {
            choices = newChoices;
            for (int place = 0; place < pays.length; place++) {
                pays[place] = 0;
            }
        }

        boolean hasChoice(int choice) {
            return choice >= 0 && choice < choices;
        }

        int allBits() {
            return (1 << choices) - 1;
        }

        int payFor(int own, int others) {
            return pays[own * MOST_CHOICES + others];
        }

        void setPay(int own, int others, int v) {
            pays[own * MOST_CHOICES + others] = v;
        }

        int changeWeight(int choice, int v) {
            int before = weights[choice];
            weights[choice] = v;
            return before;
        }

        Mix trayMix(Player other) {
            for (int choice = 0; choice < MOST_CHOICES; choice++) {
                tray.parts[choice] = choice < choices ? weights[choice] : 0;
            }
            tray.sumUp();
            if (tray.total == 0) {
                return null;
            }
            tray.answerBits = other.answersTo(tray);
            return tray;
        }

        /** The mean of one choice times the total of the other's mix, which keeps it whole. */
        private long worthOf(int own, Mix others) {
            long sum = 0;
            for (int choice = 0; choice < MOST_CHOICES; choice++) {
                sum += others.parts[choice] * payFor(own, choice);
            }
            return sum;
        }

        int answersTo(Mix others) {
            long most = worthOf(0, others);
            int best = 1;
            for (int own = 1; own < choices; own++) {
                long worth = worthOf(own, others);
                if (worth > most) {
                    most = worth;
                    best = 0;
                }
                if (worth == most) {
                    best |= 1 << own;
                }
            }
            return best;
        }

        long meanPart(Mix own, Mix others, int what) {
            long sum = 0;
            for (int choice = 0; choice < choices; choice++) {
                sum += own.parts[choice] * worthOf(choice, others);
            }
            return lowest(sum, own.total * others.total, what);
        }

        private boolean paysMore(int better, int choice, int othersBits) {
            for (int others = 0; others < MOST_CHOICES; others++) {
                if (hasBit(othersBits, others) && payFor(better, others) <= payFor(choice, others)) {
                    return false;
                }
            }
            return true;
        }

        int firstBetter(int choice, int ownBits, int othersBits) {
            for (int better = 0; better < MOST_CHOICES; better++) {
                if (hasBit(ownBits, better) && paysMore(better, choice, othersBits)) {
                    return better;
                }
            }
            return NONE;
        }

        int notWorse(int ownBits, int othersBits) {
            int kept = 0;
            for (int choice = 0; choice < MOST_CHOICES; choice++) {
                if (hasBit(ownBits, choice) && firstBetter(choice, ownBits, othersBits) == NONE) {
                    kept |= 1 << choice;
                }
            }
            return kept;
        }

        private int leastFor(int own, int othersChoices) {
            int least = payFor(own, 0);
            for (int others = 1; others < othersChoices; others++) {
                least = Math.min(least, payFor(own, others));
            }
            return least;
        }

        int leastAgainst(int others) {
            int least = payFor(0, others);
            for (int own = 1; own < choices; own++) {
                least = Math.min(least, payFor(own, others));
            }
            return least;
        }

        int mostAgainst(int others) {
            int most = payFor(0, others);
            for (int own = 1; own < choices; own++) {
                most = Math.max(most, payFor(own, others));
            }
            return most;
        }

        int surePay(int othersChoices) {
            int most = leastFor(0, othersChoices);
            for (int own = 1; own < choices; own++) {
                most = Math.max(most, leastFor(own, othersChoices));
            }
            return most;
        }

        int holdPay(int othersChoices) {
            int least = mostAgainst(0);
            for (int others = 1; others < othersChoices; others++) {
                least = Math.min(least, mostAgainst(others));
            }
            return least;
        }

        int farthestPay() {
            int farthest = 0;
            for (int place = 0; place < pays.length; place++) {
                farthest = Math.max(farthest, Math.abs(pays[place]));
            }
            return farthest;
        }

        void addAgainst(int others, int v) {
            for (int own = 0; own < choices; own++) {
                setPay(own, others, payFor(own, others) + v);
            }
        }

        void multiplyPays(int v) {
            for (int place = 0; place < pays.length; place++) {
                pays[place] *= v;
            }
        }

        /** Whether what each gets the other loses. */
        boolean takesFrom(Player other) {
            for (int own = 0; own < choices; own++) {
                for (int others = 0; others < other.choices; others++) {
                    if (payFor(own, others) + other.payFor(others, own) != 0) {
                        return false;
                    }
                }
            }
            return true;
        }

        /** Whether the game looks the same from both sides. */
        boolean isLike(Player other) {
            if (choices != other.choices) {
                return false;
            }
            for (int place = 0; place < pays.length; place++) {
                if (pays[place] != other.pays[place]) {
                    return false;
                }
            }
            return true;
        }
    }

    private static final class Dropping {
        int rowsLeft;
        int columnsLeft;
        int rounds;

        void run(Player row, Player column) {
            rowsLeft = row.allBits();
            columnsLeft = column.allBits();
            rounds = 0;
            boolean dropped = true;
            // Each round but the last takes one of eight choices at least.
            for (int round = 0; round < 2 * MOST_CHOICES && dropped; round++) {
                int rowsKept = row.notWorse(rowsLeft, columnsLeft);
                int columnsKept = column.notWorse(columnsLeft, rowsLeft);
                dropped = rowsKept != rowsLeft || columnsKept != columnsLeft;
                if (dropped) {
                    rounds++;
                }
                rowsLeft = rowsKept;
                columnsLeft = columnsKept;
            }
        }
    }

    /**
     * All corners of one player, in their order.
     *
     * A mix is a corner just if the choices that it uses and the other's answers to it leave no
     * other mix: then as many of the answers as it uses choices can be picked that pin it down
     * by being worth the same. So each set of used choices is tried with each equally great set
     * of tied answers.
     */
    private static final class Corners {
        int count;
        /** Filled as far as ever needed; mixes beyond count are kept to be used again. */
        private final Mix[] places = new Mix[MOST_CORNERS];
        private Mix spare = new Mix();
        /** By how much each tied answer but the first pays more than the first, a row each. */
        private final long[][] gaps = new long[MOST_CHOICES - 1][MOST_CHOICES];

        Mix mixAt(int c) {
            return c >= 0 && c < count && c < MOST_CORNERS ? places[c] : null;
        }

        int numberOf(Mix mix) {
            for (int c = 0; c < count; c++) {
                Mix here = mixAt(c);
                if (here != null && here.orderTo(mix) == 0) {
                    return c;
                }
            }
            return NONE;
        }

        void searchAll(int ownBits, Player other) {
            count = 0;
            for (int used = 1; used <= ownBits; used++) {
                for (int tied = 1; tied <= other.allBits(); tied++) {
                    if (Integer.bitCount(used) == Integer.bitCount(tied)) {
                        search(used, tied, other);
                    }
                }
            }
        }

        private void search(int used, int tied, Player other) {
            layGaps(used, tied, other);
            layParts(used);
            if (!makePositive(used)) {
                return;
            }
            spare.sumUp();
            spare.answerBits = other.answersTo(spare);
            if ((tied & ~spare.answerBits) == 0) {
                keepSpare();
            }
        }

        private void layGaps(int used, int tied, Player other) {
            int first = firstOf(tied);
            int line = 0;
            for (int answer = first + 1; answer < MOST_CHOICES; answer++) {
                if (hasBit(tied, answer)) {
                    layLine(line, used, other, first, answer);
                    line++;
                }
            }
        }

        private void layLine(int line, int used, Player other, int first, int answer) {
            int place = 0;
            for (int choice = 0; choice < MOST_CHOICES; choice++) {
                if (hasBit(used, choice)) {
                    gaps[line][place] = other.payFor(answer, choice) - other.payFor(first, choice);
                    place++;
                }
            }
        }

        /**
         * The only mix, but for its total, that closes all gaps has as parts the determinants
         * of the gaps without that column, with signs in turn; all are 0 if it is not the only.
         */
        private void layParts(int used) {
            int lines = Integer.bitCount(used) - 1;
            int place = 0;
            for (int choice = 0; choice < MOST_CHOICES; choice++) {
                spare.parts[choice] = 0;
                if (hasBit(used, choice)) {
                    long part = gapsWithout(place, lines);
                    spare.parts[choice] = place % 2 == 0 ? part : -part;
                    place++;
                }
            }
        }

        private long gapsWithout(int place, int lines) {
            int a = place > 0 ? 0 : 1;
            int b = place > 1 ? 1 : 2;
            int c = place > 2 ? 2 : 3;
            switch (lines) {
                case 0:
                    return 1;
                case 1:
                    return gaps[0][a];
                case 2:
                    return twoLines(0, 1, a, b);
                default:
                    return gaps[0][a] * twoLines(1, 2, b, c)
                        - gaps[0][b] * twoLines(1, 2, a, c)
                        + gaps[0][c] * twoLines(1, 2, a, b);
            }
        }

        private long twoLines(int upper, int lower, int a, int b) {
            return gaps[upper][a] * gaps[lower][b] - gaps[upper][b] * gaps[lower][a];
        }

        /** False if the parts of the used choices are not all above 0, or all below. */
        private boolean makePositive(int used) {
            long sign = signOfFirst(used);
            for (int choice = 0; choice < MOST_CHOICES; choice++) {
                spare.parts[choice] *= sign;
                if (hasBit(used, choice) && spare.parts[choice] <= 0) {
                    return false;
                }
            }
            return true;
        }

        private long signOfFirst(int used) {
            for (int choice = 0; choice < MOST_CHOICES; choice++) {
                if (hasBit(used, choice)) {
                    return spare.parts[choice] < 0 ? -1 : 1;
                }
            }
            return 1;
        }

        private void keepSpare() {
            int place = count;
            for (int c = count - 1; c >= 0; c--) {
                Mix here = places[c];
                int order = here == null ? 1 : spare.orderTo(here);
                if (order == 0) {
                    return;
                }
                if (order < 0) {
                    place = c;
                }
            }
            if (count < MOST_CORNERS) {
                insertSpare(place);
            }
        }

        private void insertSpare(int place) {
            Mix next = places[count];
            for (int c = count; c > place; c--) {
                places[c] = places[c - 1];
            }
            places[place] = spare;
            spare = next == null ? new Mix() : next;
            count++;
        }
    }
}
