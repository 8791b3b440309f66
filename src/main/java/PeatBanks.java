/**
 * A peat moss in which commoners have rights to cut: a bank of plots, rows of peats that dry,
 * carts that bring them home, disputes over plots beside, days read from a text, undo and a snapshot.
 *
 * The promises are numbered in ../shared/DOC.md. All arrays are made in the constructor and used again,
 * so no call makes an object.
 */
public final class PeatBanks {

    /** There is no such commoner, plot, row, cart or dispute. */
    public static final int UNKNOWN = -1;
    /** Another argument is out of range. */
    public static final int BAD_VALUE = -2;
    /** There is no more room. */
    public static final int FULL = -3;
    /** This is not possible. */
    public static final int NOT_POSSIBLE = -4;
    /** There is no such thing; not an error. */
    public static final int NONE = -5;

    private static final int COMMONERS = 10;
    private static final int PLOTS = 20;
    private static final int PLOTS_EACH = 2;
    private static final int LAYERS = 6;
    /** Layers never grow back, so no more rows, and no more disputes over rows, can ever be. */
    private static final int MOST_ROWS_EVER = PLOTS * LAYERS;
    private static final int MOST_ROWS_LYING = 60;

    private static final int FIRST_DAYS = 6;
    private static final int MOST_DAYS = 20;

    private static final int CARTS = 2;
    private static final int COMMONERS_BETWEEN_CARTS = 5;
    private static final int FIRST_CART_ROWS = 3;
    private static final int MOST_CART_ROWS = 6;

    private static final int PEATS_OF_ROW = 40;
    private static final int FIRST_WETNESS = 50;
    private static final int MOST_WETNESS = 60;
    private static final int DRY_WETNESS = 20;

    private static final int SUN = 0;
    private static final int CLOUD = 1;
    private static final int RAIN = 2;

    private static final int NO_DAY_LEFT = 1;
    private static final int NO_LAYER_LEFT = 2;
    private static final int TOO_MANY_ROWS = 3;
    private static final int NO_RIGHT = 4;

    private static final int PEATS_OF_DISPUTE = 20;
    private static final int BOTH_TO_BLAME = 10;

    private static final int CART_ROWS_SETTING = 0;
    private static final int STAKES_SETTING = 1;

    private static final int MOST_STATES = 4;
    private static final int MOST_CHARACTERS = 60;
    private static final int MOST_DAYS_AT_ONCE = 60;
    private static final int FAULT_BASE = -100;

    private final Moss now;
    private final Moss kept;
    private final Moss trial;
    private final History history;
    private final DayText text;
    private boolean hasKept;

    /** Promise 1: creates a moss that is not cut. */
    public PeatBanks() {
        now = new Moss();
        kept = new Moss();
        trial = new Moss();
        history = new History();
        text = new DayText();
        hasKept = false;
    }

    // ---- rights

    /** Promise 2: lends the right to a plot; to its owner, it is given back. */
    public int lend(int plot, int to) {
        if (!isPlot(plot) || !isCommoner(to)) {
            return UNKNOWN;
        }
        int before = now.rights[plot];
        if (before == to) {
            return NONE;
        }
        history.record(now);
        now.rights[plot] = to;
        return before;
    }

    /** Promise 3: gives a plot another owner, who has the right then. */
    public int handOver(int plot, int owner) {
        if (!isPlot(plot) || !isCommoner(owner)) {
            return UNKNOWN;
        }
        int before = now.owners[plot];
        if (before == owner) {
            return NONE;
        }
        history.record(now);
        now.owners[plot] = owner;
        now.rights[plot] = owner;
        return before;
    }

    /** Promise 4: sets the cutting days of a commoner. */
    public int setDays(int commoner, int days) {
        if (!isCommoner(commoner)) {
            return UNKNOWN;
        }
        if (!isWithin(days, 0, MOST_DAYS)) {
            return BAD_VALUE;
        }
        int before = now.days[commoner];
        if (before == days) {
            return NONE;
        }
        history.record(now);
        now.days[commoner] = days;
        return before;
    }

    /** Promise 5: sets a setting. */
    public int set(int which, int value) {
        if (!isSettingValue(which, value)) {
            return BAD_VALUE;
        }
        int before = which == CART_ROWS_SETTING ? now.cartRows : now.stakes;
        if (before == value) {
            return NONE;
        }
        history.record(now);
        if (which == CART_ROWS_SETTING) {
            now.cartRows = value;
        } else {
            now.stakes = value;
        }
        return before;
    }

    // ---- work

    /** Promise 6: a commoner cuts. */
    public int cut(int commoner, int plot) {
        if (!isCommoner(commoner) || !isPlot(plot)) {
            return UNKNOWN;
        }
        if (now.reasonAgainst(commoner, plot) != 0 || !now.rows.hasNumberLeft()) {
            return NOT_POSSIBLE;
        }
        history.record(now);
        return now.takeLayer(commoner, plot);
    }

    /** Promise 7: turns a row. */
    public int turn(int row) {
        if (!now.rows.isLying(row)) {
            return UNKNOWN;
        }
        if (now.rows.stacked[row]) {
            return NOT_POSSIBLE;
        }
        if (now.rows.turned[row]) {
            return NONE;
        }
        history.record(now);
        now.rows.turned[row] = true;
        return now.rows.wetness[row];
    }

    /** Promise 8: stacks a row. */
    public int stack(int row) {
        if (!now.rows.isLying(row)) {
            return UNKNOWN;
        }
        if (!now.rows.isDry(row)) {
            return NOT_POSSIBLE;
        }
        if (now.rows.stacked[row]) {
            return NONE;
        }
        history.record(now);
        now.rows.stacked[row] = true;
        return now.rows.countStackedOf(now.rows.owner[row]);
    }

    /** Promise 9: lets a day pass. */
    public int pass(int weather) {
        if (!isWeather(weather)) {
            return BAD_VALUE;
        }
        history.record(now);
        return now.passDays(1, weather);
    }

    /** Promise 10: lets the days of the text pass. */
    public int passAll() {
        int fault = text.readGroups();
        if (fault != DayText.NO_FAULT) {
            return FAULT_BASE - fault;
        }
        history.record(now);
        int days = 0;
        for (int group = 0; group < text.groups; group++) {
            now.passDays(text.groupDays[group], text.groupWeather[group]);
            days += text.groupDays[group];
        }
        return days;
    }

    /** Promise 11: settles the oldest open dispute. */
    public int settle() {
        if (now.disputes.countOpen() == 0) {
            return NONE;
        }
        history.record(now);
        return now.settleOldest();
    }

    /** Promise 12: ends the year. */
    public int endYear() {
        history.record(now);
        return now.closeYear();
    }

    // ---- texts

    /** Promise 13: types a character behind the text. */
    public int type(char character) {
        return text.append(character) ? text.length : FULL;
    }

    /** Promise 14: empties the text. */
    public int clearText() {
        int before = text.length;
        text.length = 0;
        return before;
    }

    // ---- history

    /** Promise 15: removes and restores the latest state of the history. */
    public int undo() {
        if (history.states == 0) {
            return NONE;
        }
        history.takeBack(now);
        return history.states;
    }

    /** Promise 16: takes a snapshot of the state. */
    public int keep() {
        kept.copyFrom(now);
        hasKept = true;
        return now.rows.countLying();
    }

    /** Promise 17: restores the state of the snapshot, which stays. */
    public int restore() {
        if (!hasKept) {
            return NONE;
        }
        history.record(now);
        now.copyFrom(kept);
        return now.rows.countLying();
    }

    // ---- what is told

    /** Promise 18: a number of a commoner. */
    public int commoner(int commoner, int what) {
        if (!isCommoner(commoner)) {
            return UNKNOWN;
        }
        switch (what) {
            case 0:
                return now.days[commoner];
            case 1:
                return now.used[commoner];
            case 2:
                return now.hearths[commoner];
            case 3:
                return now.rows.countLyingOf(commoner);
            case 4:
                return now.rows.countStackedOf(commoner);
            case 5:
                return countEqual(now.owners, commoner);
            case 6:
                return countEqual(now.rights, commoner);
            case 7:
                return now.disputes.countOpenWith(commoner);
            default:
                return BAD_VALUE;
        }
    }

    /** Promise 19: a number of a plot. */
    public int plot(int plot, int what) {
        if (!isPlot(plot)) {
            return UNKNOWN;
        }
        switch (what) {
            case 0:
                return now.layers[plot];
            case 1:
                return now.owners[plot];
            case 2:
                return now.rights[plot];
            case 3:
                return oneIf(now.rights[plot] != now.owners[plot]);
            default:
                return BAD_VALUE;
        }
    }

    /** Promise 20: a number of a row that lies. */
    public int row(int row, int what) {
        if (!now.rows.isLying(row)) {
            return UNKNOWN;
        }
        switch (what) {
            case 0:
                return now.rows.owner[row];
            case 1:
                return now.rows.plot[row];
            case 2:
                return now.rows.wetness[row];
            case 3:
                return oneIf(now.rows.turned[row]);
            case 4:
                return oneIf(now.rows.stacked[row]);
            case 5:
                return oneIf(now.rows.isDry(row));
            case 6:
                return now.rows.peatsAtHearth(row);
            default:
                return BAD_VALUE;
        }
    }

    /** Promise 21: the rows of a commoner by wetness, the driest first. */
    public int driest(int commoner, int rank) {
        if (!isCommoner(commoner)) {
            return UNKNOWN;
        }
        if (rank < 0) {
            return BAD_VALUE;
        }
        return now.rows.driestOf(commoner, rank);
    }

    /** Promise 22: why a commoner cannot cut at a plot. */
    public int why(int commoner, int plot) {
        if (!isCommoner(commoner) || !isPlot(plot)) {
            return UNKNOWN;
        }
        return now.reasonAgainst(commoner, plot);
    }

    /** Promise 23: a number of an open dispute. */
    public int dispute(int rank, int what) {
        if (rank < 0 || !isWithin(what, 0, 3)) {
            return BAD_VALUE;
        }
        int dispute = now.disputes.openOfRank(rank);
        if (dispute == NONE) {
            return NONE;
        }
        switch (what) {
            case 0:
                return now.disputes.cutter[dispute];
            case 1:
                return now.disputes.wronged[dispute];
            case 2:
                return now.disputes.row[dispute];
            default:
                return now.disputes.plot[dispute];
        }
    }

    /** Promise 24: the commoner whose turn a cart is on the next day. */
    public int cart(int cart) {
        if (!isWithin(cart, 0, CARTS - 1)) {
            return UNKNOWN;
        }
        return now.commonerOfCart(cart);
    }

    /** Promise 25: how many rows so many days of one weather would bring home. */
    public int would(int days, int weather) {
        if (!isWithin(days, 1, MOST_DAYS_AT_ONCE) || !isWeather(weather)) {
            return BAD_VALUE;
        }
        trial.copyFrom(now);
        return trial.passDays(days, weather);
    }

    /** Promise 26: a number of the whole moss. */
    public int count(int what) {
        switch (what) {
            case 0:
                return now.dayOfYear;
            case 1:
                return now.years;
            case 2:
                return now.rows.countLying();
            case 3:
                return now.rows.soFar;
            case 4:
                return now.rows.countStacked();
            case 5:
                return now.rows.countDry();
            case 6:
                return now.rowsHome;
            case 7:
                return sumOf(now.hearths);
            case 8:
                return sumOf(now.layers);
            case 9:
                return now.disputes.countOpen();
            case 10:
                return now.disputes.soFar;
            case 11:
                return now.cartRows;
            case 12:
                return now.stakes;
            case 13:
                return history.states;
            case 14:
                return text.length;
            default:
                return BAD_VALUE;
        }
    }

    // ---- small tests and sums

    private static boolean isWithin(int value, int least, int most) {
        return value >= least && value <= most;
    }

    private static boolean isCommoner(int commoner) {
        return isWithin(commoner, 0, COMMONERS - 1);
    }

    private static boolean isPlot(int plot) {
        return isWithin(plot, 0, PLOTS - 1);
    }

    private static boolean isWeather(int weather) {
        return isWithin(weather, SUN, RAIN);
    }

    private static boolean isSettingValue(int which, int value) {
        if (which == CART_ROWS_SETTING) {
            return isWithin(value, 1, MOST_CART_ROWS);
        }
        return which == STAKES_SETTING && isWithin(value, 0, 1);
    }

    private static int oneIf(boolean so) {
        return so ? 1 : 0;
    }

    private static int countEqual(int[] numbers, int number) {
        int count = 0;
        for (int each : numbers) {
            count += oneIf(each == number);
        }
        return count;
    }

    private static int sumOf(int[] numbers) {
        int sum = 0;
        for (int each : numbers) {
            sum += each;
        }
        return sum;
    }

    /** Copies as many numbers as both have room for. */
    private static void copyNumbers(int[] from, int[] to) {
        System.arraycopy(from, 0, to, 0, Math.min(from.length, to.length));
    }

    private static void copyFlags(boolean[] from, boolean[] to) {
        System.arraycopy(from, 0, to, 0, Math.min(from.length, to.length));
    }

    /** One state: everything but the text, the history and the snapshot. */
    static final class Moss {
        final int[] layers = new int[PLOTS];
        final int[] owners = new int[PLOTS];
        final int[] rights = new int[PLOTS];
        final int[] days = new int[COMMONERS];
        final int[] used = new int[COMMONERS];
        final int[] hearths = new int[COMMONERS];
        final Rows rows = new Rows();
        final Disputes disputes = new Disputes();
        int cartRows = FIRST_CART_ROWS;
        int stakes;
        /** The commoner whose turn the cart 0 is; the other carts stay a fixed way ahead. */
        int rota;
        int dayOfYear;
        int years;
        int rowsHome;

        Moss() {
            for (int plot = 0; plot < PLOTS; plot++) {
                layers[plot] = LAYERS;
                owners[plot] = plot / PLOTS_EACH;
                rights[plot] = plot / PLOTS_EACH;
            }
            for (int commoner = 0; commoner < COMMONERS; commoner++) {
                days[commoner] = FIRST_DAYS;
            }
        }

        void copyFrom(Moss other) {
            copyNumbers(other.layers, layers);
            copyNumbers(other.owners, owners);
            copyNumbers(other.rights, rights);
            copyNumbers(other.days, days);
            copyNumbers(other.used, used);
            copyNumbers(other.hearths, hearths);
            rows.copyFrom(other.rows);
            disputes.copyFrom(other.disputes);
            cartRows = other.cartRows;
            stakes = other.stakes;
            rota = other.rota;
            dayOfYear = other.dayOfYear;
            years = other.years;
            rowsHome = other.rowsHome;
        }

        /** Why this commoner cannot cut there; 0 if it is possible. */
        int reasonAgainst(int commoner, int plot) {
            if (!hasDayLeft(commoner)) {
                return NO_DAY_LEFT;
            }
            if (!isPlot(plot) || layers[plot] <= 0) {
                return NO_LAYER_LEFT;
            }
            if (rows.countLying() >= MOST_ROWS_LYING) {
                return TOO_MANY_ROWS;
            }
            boolean near = hasRight(commoner, plot)
                    || hasRight(commoner, plot - 1)
                    || hasRight(commoner, plot + 1);
            return near ? 0 : NO_RIGHT;
        }

        private boolean hasDayLeft(int commoner) {
            return isCommoner(commoner) && used[commoner] < days[commoner];
        }

        private boolean hasRight(int commoner, int plot) {
            return isPlot(plot) && rights[plot] == commoner;
        }

        /** Cuts where there is no reason against it, and answers the number of the row. */
        int takeLayer(int commoner, int plot) {
            if (!isCommoner(commoner) || !isPlot(plot)) {
                return UNKNOWN;
            }
            layers[plot]--;
            used[commoner]++;
            int row = rows.lay(commoner, plot);
            if (rights[plot] != commoner) {
                disputes.open(commoner, rights[plot], row, plot);
            }
            return row;
        }

        /** Lets days of one weather pass and answers how many rows they bring home. */
        int passDays(int howMany, int weather) {
            int before = rowsHome;
            for (int day = 0; day < howMany; day++) {
                rows.dryOrWet(weather);
                for (int cart = 0; cart < CARTS; cart++) {
                    serve(commonerOfCart(cart));
                }
                rota = (rota + 1) % COMMONERS;
                dayOfYear++;
            }
            return rowsHome - before;
        }

        int commonerOfCart(int cart) {
            return (rota + cart * COMMONERS_BETWEEN_CARTS) % COMMONERS;
        }

        private void serve(int commoner) {
            for (int taken = 0; taken < cartRows; taken++) {
                int row = rows.driestStackedOf(commoner);
                if (!isCommoner(commoner) || !rows.isLying(row)) {
                    return;
                }
                hearths[commoner] += rows.peatsAtHearth(row);
                rows.lying[row] = false;
                rowsHome++;
            }
        }

        /** Settles the oldest open dispute, where there is one. */
        int settleOldest() {
            int dispute = disputes.openOfRank(0);
            if (dispute == NONE) {
                return NONE;
            }
            disputes.settled++;
            int cutter = disputes.cutter[dispute];
            if (stakes == 0) {
                useDayIfLeft(cutter);
                return BOTH_TO_BLAME;
            }
            int wronged = disputes.wronged[dispute];
            int row = disputes.row[dispute];
            // A row of an open dispute is never gone: the end of a year drops both.
            if (rows.isLying(row)) {
                rows.owner[row] = wronged;
            } else {
                givePeats(cutter, wronged);
            }
            return wronged;
        }

        private void useDayIfLeft(int commoner) {
            if (hasDayLeft(commoner)) {
                used[commoner]++;
            }
        }

        private void givePeats(int from, int to) {
            if (isCommoner(from) && isCommoner(to)) {
                int peats = Math.min(PEATS_OF_DISPUTE, hearths[from]);
                hearths[from] -= peats;
                hearths[to] += peats;
            }
        }

        /** Ends the year and answers how many rows are gone by that. */
        int closeYear() {
            int gone = rows.loseAll();
            disputes.settled = disputes.soFar;
            copyNumbers(owners, rights);
            for (int commoner = 0; commoner < COMMONERS; commoner++) {
                used[commoner] = 0;
            }
            dayOfYear = 0;
            years++;
            return gone;
        }
    }

    /** All rows that were ever cut, by number; one that is home or gone does not lie. */
    static final class Rows {
        final int[] owner = new int[MOST_ROWS_EVER];
        final int[] plot = new int[MOST_ROWS_EVER];
        final int[] wetness = new int[MOST_ROWS_EVER];
        final boolean[] turned = new boolean[MOST_ROWS_EVER];
        final boolean[] stacked = new boolean[MOST_ROWS_EVER];
        final boolean[] lying = new boolean[MOST_ROWS_EVER];
        int soFar;

        void copyFrom(Rows other) {
            copyNumbers(other.owner, owner);
            copyNumbers(other.plot, plot);
            copyNumbers(other.wetness, wetness);
            copyFlags(other.turned, turned);
            copyFlags(other.stacked, stacked);
            copyFlags(other.lying, lying);
            soFar = other.soFar;
        }

        boolean hasNumberLeft() {
            return soFar < MOST_ROWS_EVER;
        }

        /** One behind the last number; each array has room for all numbers below it. */
        private int end() {
            return Math.min(soFar, MOST_ROWS_EVER);
        }

        /** Lays a fresh row and answers its number. */
        int lay(int commoner, int from) {
            int row = soFar;
            if (!hasNumberLeft()) {
                return NOT_POSSIBLE;
            }
            owner[row] = commoner;
            plot[row] = from;
            wetness[row] = FIRST_WETNESS;
            turned[row] = false;
            stacked[row] = false;
            lying[row] = true;
            soFar++;
            return row;
        }

        boolean isLying(int row) {
            return isWithin(row, 0, end() - 1) && lying[row];
        }

        private boolean isLyingOf(int row, int commoner) {
            return isLying(row) && owner[row] == commoner;
        }

        private boolean isStacked(int row) {
            return isLying(row) && stacked[row];
        }

        boolean isDry(int row) {
            return isLying(row) && wetness[row] <= DRY_WETNESS;
        }

        int peatsAtHearth(int row) {
            return isLying(row) ? Math.max(0, PEATS_OF_ROW - wetness[row]) : 0;
        }

        int countLying() {
            int count = 0;
            for (int row = 0, end = end(); row < end; row++) {
                count += oneIf(lying[row]);
            }
            return count;
        }

        int countStacked() {
            int count = 0;
            for (int row = 0, end = end(); row < end; row++) {
                count += oneIf(isStacked(row));
            }
            return count;
        }

        int countDry() {
            int count = 0;
            for (int row = 0, end = end(); row < end; row++) {
                count += oneIf(isDry(row));
            }
            return count;
        }

        int countLyingOf(int commoner) {
            int count = 0;
            for (int row = 0, end = end(); row < end; row++) {
                count += oneIf(isLyingOf(row, commoner));
            }
            return count;
        }

        int countStackedOf(int commoner) {
            int count = 0;
            for (int row = 0, end = end(); row < end; row++) {
                count += oneIf(isStacked(row) && owner[row] == commoner);
            }
            return count;
        }

        /** The row of that rank by wetness, then by number, or NONE. */
        int driestOf(int commoner, int rank) {
            for (int row = 0, end = end(); row < end; row++) {
                if (isLyingOf(row, commoner) && countDrierThan(row, commoner) == rank) {
                    return row;
                }
            }
            return NONE;
        }

        private int countDrierThan(int row, int commoner) {
            int count = 0;
            for (int other = 0, end = end(); other < end; other++) {
                count += oneIf(isLyingOf(other, commoner) && comesBefore(other, row));
            }
            return count;
        }

        private boolean comesBefore(int one, int other) {
            return wetness[one] < wetness[other]
                    || (wetness[one] == wetness[other] && one < other);
        }

        /** The stacked row that a cart takes first, or NONE. */
        int driestStackedOf(int commoner) {
            int driest = NONE;
            for (int row = 0, end = end(); row < end; row++) {
                if (lying[row] && stacked[row] && owner[row] == commoner
                        && (driest == NONE || wetness[row] < wetness[driest])) {
                    driest = row;
                }
            }
            return driest;
        }

        /** A day of weather for all rows that are not stacked. */
        void dryOrWet(int weather) {
            for (int row = 0, end = end(); row < end; row++) {
                if (lying[row] && !stacked[row]) {
                    int wet = wetness[row] + changeBy(weather, turned[row]);
                    wetness[row] = Math.max(0, Math.min(MOST_WETNESS, wet));
                }
            }
        }

        private static int changeBy(int weather, boolean isTurned) {
            switch (weather) {
                case SUN:
                    return isTurned ? -8 : -6;
                case CLOUD:
                    return isTurned ? -5 : -3;
                default:
                    return 4;
            }
        }

        /** Takes all rows away and answers how many there were. */
        int loseAll() {
            int gone = countLying();
            for (int row = 0, end = end(); row < end; row++) {
                lying[row] = false;
            }
            return gone;
        }
    }

    /** All disputes there ever were, the oldest first; those from the number settled on are open. */
    static final class Disputes {
        final int[] cutter = new int[MOST_ROWS_EVER];
        final int[] wronged = new int[MOST_ROWS_EVER];
        final int[] row = new int[MOST_ROWS_EVER];
        final int[] plot = new int[MOST_ROWS_EVER];
        /** Settled or dropped; within 0 to soFar. */
        int settled;
        int soFar;

        void copyFrom(Disputes other) {
            copyNumbers(other.cutter, cutter);
            copyNumbers(other.wronged, wronged);
            copyNumbers(other.row, row);
            copyNumbers(other.plot, plot);
            settled = other.settled;
            soFar = other.soFar;
        }

        void open(int byCommoner, int withCommoner, int aboutRow, int atPlot) {
            if (soFar < MOST_ROWS_EVER) {
                cutter[soFar] = byCommoner;
                wronged[soFar] = withCommoner;
                row[soFar] = aboutRow;
                plot[soFar] = atPlot;
                soFar++;
            }
        }

        /** One behind the last dispute; each array has room for all before it. */
        private int end() {
            return Math.min(soFar, MOST_ROWS_EVER);
        }

        int countOpen() {
            return end() - settled;
        }

        /** The place of the open dispute of that rank, or NONE. */
        int openOfRank(int rank) {
            return isWithin(rank, 0, countOpen() - 1) ? settled + rank : NONE;
        }

        int countOpenWith(int commoner) {
            int count = 0;
            for (int dispute = settled, end = end(); dispute < end; dispute++) {
                count += oneIf(cutter[dispute] == commoner || wronged[dispute] == commoner);
            }
            return count;
        }
    }

    /** The latest states; the four objects are made once and change places. */
    static final class History {
        private Moss latest = new Moss();
        private Moss second = new Moss();
        private Moss third = new Moss();
        private Moss oldest = new Moss();
        int states;

        /** Records a state; with four there already, the oldest is written over. */
        void record(Moss state) {
            Moss spare = oldest;
            oldest = third;
            third = second;
            second = latest;
            latest = spare;
            latest.copyFrom(state);
            states = Math.min(MOST_STATES, states + 1);
        }

        /** Removes the latest state, where there is one, and writes it into the given one. */
        void takeBack(Moss state) {
            if (states > 0) {
                Moss spare = latest;
                latest = second;
                second = third;
                third = oldest;
                oldest = spare;
                state.copyFrom(spare);
                states--;
            }
        }
    }

    /** The text of days, and the groups that were read from it last. */
    static final class DayText {
        static final int NO_FAULT = -1;
        private static final int NO_NUMBER = 0;

        private final char[] characters = new char[MOST_CHARACTERS];
        int length;
        final int[] groupWeather = new int[MOST_CHARACTERS];
        final int[] groupDays = new int[MOST_CHARACTERS];
        int groups;

        boolean append(char character) {
            if (length >= MOST_CHARACTERS) {
                return false;
            }
            characters[length] = character;
            length++;
            return true;
        }

        /** Reads the groups of the text and answers the place of its fault, or NO_FAULT. */
        int readGroups() {
            groups = 0;
            int number = NO_NUMBER;
            for (int at = 0; at < length; at++) {
                char character = characters[at];
                // Behind a number of 1 only a digit is allowed.
                if (isWeatherLetter(character) && number != 1) {
                    openGroup(weatherOf(character));
                    number = NO_NUMBER;
                } else if (isDigit(character) && groups > 0) {
                    number = number * 10 + (character - '0');
                    // It is 0 only where a zero stands in front.
                    if (number == 0 || number > MOST_DAYS_AT_ONCE) {
                        return at;
                    }
                    groupDays[groups - 1] = number;
                } else {
                    return at;
                }
            }
            return groups == 0 || number == 1 ? length : NO_FAULT;
        }

        private void openGroup(int weather) {
            if (groups < MOST_CHARACTERS) {
                groupWeather[groups] = weather;
                groupDays[groups] = 1;
                groups++;
            }
        }

        private static boolean isDigit(char character) {
            return character >= '0' && character <= '9';
        }

        private static boolean isWeatherLetter(char character) {
            return character == 's' || character == 'c' || character == 'r';
        }

        private static int weatherOf(char character) {
            if (character == 's') {
                return SUN;
            }
            return character == 'c' ? CLOUD : RAIN;
        }
    }
}
