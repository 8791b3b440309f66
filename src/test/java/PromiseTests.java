/** For each promise: ordinary calls, the edges that the document names, and wrong arguments. */
public final class PromiseTests {
    private static final int UNKNOWN = -1;
    private static final int BAD_VALUE = -2;
    private static final int FULL = -3;
    private static final int NOT_POSSIBLE = -4;
    private static final int NONE = -5;
    private static final int[] WRONG = {Integer.MIN_VALUE, -1, 1000, Integer.MAX_VALUE};

    private static int wrong = 0;

    private static void due(String what, int got, int want) {
        if (got != want) {
            wrong++;
            System.out.println(what + " answered " + got + ", due is " + want);
        }
    }

    public static void main(String[] args) {
        constants();
        newObject();
        lend();
        handOver();
        setDays();
        set();
        cut();
        cutTheWholeBank();
        turn();
        stack();
        pass();
        wetnessStaysInBounds();
        cartsTakeTheDriest();
        cartsGoByTurn();
        passAll();
        faultsOfTexts();
        settleWithStakes();
        settleRowAtHome();
        settleWithoutStakes();
        endYear();
        type();
        clearText();
        undo();
        historyDropsTheOldest();
        everyActRecords();
        whatIsNoActRecordsNothing();
        keep();
        restore();
        commoner();
        plot();
        row();
        driest();
        why();
        dispute();
        cart();
        would();
        count();
        System.out.println(wrong == 0 ? "all answers are as due" : wrong + " answers are not as due");
        if (wrong != 0) {
            System.exit(1);
        }
    }

    private static void times(PeatBanks moss, int days, int weather) {
        for (int day = 0; day < days; day++) {
            moss.pass(weather);
        }
    }

    private static void write(PeatBanks moss, String text) {
        moss.clearText();
        for (int at = 0; at < text.length(); at++) {
            moss.type(text.charAt(at));
        }
    }

    private static PeatBanks mossWithRowOf(int commoner, int plot) {
        PeatBanks moss = new PeatBanks();
        moss.cut(commoner, plot);
        return moss;
    }

    private static void constants() {
        due("UNKNOWN", PeatBanks.UNKNOWN, UNKNOWN);
        due("BAD_VALUE", PeatBanks.BAD_VALUE, BAD_VALUE);
        due("FULL", PeatBanks.FULL, FULL);
        due("NOT_POSSIBLE", PeatBanks.NOT_POSSIBLE, NOT_POSSIBLE);
        due("NONE", PeatBanks.NONE, NONE);
    }

    private static void newObject() {
        PeatBanks moss = new PeatBanks();
        for (int plot = 0; plot < 20; plot++) {
            due("new plot layers", moss.plot(plot, 0), 6);
            due("new plot owner", moss.plot(plot, 1), plot / 2);
            due("new plot right", moss.plot(plot, 2), plot / 2);
            due("new plot lent", moss.plot(plot, 3), 0);
        }
        int[] ofCommoner = {6, 0, 0, 0, 0, 2, 2, 0};
        for (int commoner = 0; commoner < 10; commoner++) {
            for (int what = 0; what < 8; what++) {
                due("new commoner " + what, moss.commoner(commoner, what), ofCommoner[what]);
            }
        }
        int[] counts = {0, 0, 0, 0, 0, 0, 0, 0, 120, 0, 0, 3, 0, 0, 0};
        for (int what = 0; what < 15; what++) {
            due("new count " + what, moss.count(what), counts[what]);
        }
        due("new cart 0", moss.cart(0), 0);
        due("new cart 1", moss.cart(1), 5);
        due("new row", moss.row(0, 0), UNKNOWN);
        due("new snapshot", moss.restore(), NONE);
        due("new history", moss.undo(), NONE);
    }

    private static void lend() {
        PeatBanks moss = new PeatBanks();
        due("lend(5, 7)", moss.lend(5, 7), 2);
        due("right is with 7", moss.plot(5, 2), 7);
        due("owner stays", moss.plot(5, 1), 2);
        due("is lent", moss.plot(5, 3), 1);
        due("same again", moss.lend(5, 7), NONE);
        due("one state only", moss.count(13), 1);
        due("on to another", moss.lend(5, 9), 7);
        due("given back", moss.lend(5, 2), 9);
        due("no longer lent", moss.plot(5, 3), 0);
        due("to the owner who has it", moss.lend(4, 2), NONE);
        due("first and last", moss.lend(0, 9), 0);
        due("last and first", moss.lend(19, 0), 9);
        for (int value : WRONG) {
            due("lend wrong plot", moss.lend(value, 0), UNKNOWN);
            due("lend wrong commoner", moss.lend(0, value), UNKNOWN);
        }
        due("lend(20, 0)", moss.lend(20, 0), UNKNOWN);
        due("lend(0, 10)", moss.lend(0, 10), UNKNOWN);
        due("errors change nothing", moss.plot(0, 2), 9);
    }

    private static void handOver() {
        PeatBanks moss = new PeatBanks();
        moss.lend(3, 8);
        due("same owner, though lent", moss.handOver(3, 1), NONE);
        due("still lent", moss.plot(3, 2), 8);
        due("handOver(3, 4)", moss.handOver(3, 4), 1);
        due("new owner", moss.plot(3, 1), 4);
        due("new owner has the right", moss.plot(3, 2), 4);
        due("not lent", moss.plot(3, 3), 0);
        due("plots of 4", moss.commoner(4, 5), 3);
        due("plots of 1", moss.commoner(1, 5), 1);
        moss.lend(3, 8);
        due("to the one who borrows it", moss.handOver(3, 8), 4);
        due("then it is not lent", moss.plot(3, 3), 0);
        for (int value : WRONG) {
            due("handOver wrong plot", moss.handOver(value, 0), UNKNOWN);
            due("handOver wrong owner", moss.handOver(0, value), UNKNOWN);
        }
        due("handOver(20, 0)", moss.handOver(20, 0), UNKNOWN);
        due("handOver(0, 10)", moss.handOver(0, 10), UNKNOWN);
        due("handOver(19, 0)", moss.handOver(19, 0), 9);
    }

    private static void setDays() {
        PeatBanks moss = new PeatBanks();
        due("setDays(4, 20)", moss.setDays(4, 20), 6);
        due("days are 20", moss.commoner(4, 0), 20);
        due("setDays(4, 0)", moss.setDays(4, 0), 20);
        due("same again", moss.setDays(4, 0), NONE);
        due("setDays(4, 21)", moss.setDays(4, 21), BAD_VALUE);
        due("setDays(4, -1)", moss.setDays(4, -1), BAD_VALUE);
        for (int value : WRONG) {
            due("setDays wrong commoner", moss.setDays(value, 6), UNKNOWN);
            due("commoner before days", moss.setDays(value, 99), UNKNOWN);
            due("setDays wrong days", moss.setDays(0, value), BAD_VALUE);
        }
        due("setDays(10, 6)", moss.setDays(10, 6), UNKNOWN);
        due("days stay", moss.commoner(4, 0), 0);
        moss.cut(5, 10);
        moss.cut(5, 10);
        due("below the used ones", moss.setDays(5, 1), 6);
        due("used ones stay", moss.commoner(5, 1), 2);
    }

    private static void set() {
        PeatBanks moss = new PeatBanks();
        due("set(0, 6)", moss.set(0, 6), 3);
        due("set(0, 1)", moss.set(0, 1), 6);
        due("set(0, 1) again", moss.set(0, 1), NONE);
        due("set(1, 0)", moss.set(1, 0), NONE);
        due("set(1, 1)", moss.set(1, 1), 0);
        due("set(1, 1) again", moss.set(1, 1), NONE);
        due("set(1, 0) back", moss.set(1, 0), 1);
        due("set(0, 0)", moss.set(0, 0), BAD_VALUE);
        due("set(0, 7)", moss.set(0, 7), BAD_VALUE);
        due("set(1, -1)", moss.set(1, -1), BAD_VALUE);
        due("set(1, 2)", moss.set(1, 2), BAD_VALUE);
        due("set(2, 1)", moss.set(2, 1), BAD_VALUE);
        due("set(-1, 1)", moss.set(-1, 1), BAD_VALUE);
        for (int value : WRONG) {
            due("set wrong which", moss.set(value, 1), BAD_VALUE);
            due("set wrong rows", moss.set(0, value), BAD_VALUE);
            due("set wrong stakes", moss.set(1, value), BAD_VALUE);
        }
        due("setting 0", moss.count(11), 1);
        due("setting 1", moss.count(12), 0);
    }

    private static void cut() {
        PeatBanks moss = new PeatBanks();
        due("cut(4, 8)", moss.cut(4, 8), 0);
        due("layer is gone", moss.plot(8, 0), 5);
        due("day is used", moss.commoner(4, 1), 1);
        due("row's owner", moss.row(0, 0), 4);
        due("row's plot", moss.row(0, 1), 8);
        due("row's wetness", moss.row(0, 2), 50);
        due("row is not turned", moss.row(0, 3), 0);
        due("row is not stacked", moss.row(0, 4), 0);
        due("no dispute by right", moss.count(9), 0);
        due("beside below", moss.cut(4, 7), 1);
        due("dispute with 3", moss.dispute(0, 1), 3);
        due("beside above", moss.cut(4, 10), 2);
        due("dispute with 5", moss.dispute(1, 1), 5);
        due("layer of the other", moss.plot(10, 0), 5);
        due("two beside", moss.cut(4, 6), NOT_POSSIBLE);
        due("two beside above", moss.cut(4, 11), NOT_POSSIBLE);
        due("days used", moss.commoner(4, 1), 3);
        moss.lend(8, 0);
        due("lender beside his own plot", moss.cut(4, 8), 3);
        due("dispute with the borrower", moss.dispute(2, 1), 0);
        due("borrower cuts by right", moss.cut(0, 8), 4);
        due("no dispute by that", moss.count(9), 3);
        due("borrower cuts beside what is lent to him", moss.cut(0, 7), 5);
        due("dispute of the borrower", moss.dispute(3, 0), 0);
        moss.setDays(4, 4);
        due("no day is left", moss.cut(4, 9), NOT_POSSIBLE);
        for (int value : WRONG) {
            due("cut wrong commoner", moss.cut(value, 0), UNKNOWN);
            due("cut wrong plot", moss.cut(0, value), UNKNOWN);
        }
        due("cut(10, 0)", moss.cut(10, 0), UNKNOWN);
        due("cut(0, 20)", moss.cut(0, 20), UNKNOWN);
        due("ends of the bank do not meet", new PeatBanks().cut(0, 19), NOT_POSSIBLE);
        due("nor the other way", new PeatBanks().cut(9, 0), NOT_POSSIBLE);
        due("last plot", new PeatBanks().cut(9, 19), 0);
    }

    private static void cutTheWholeBank() {
        PeatBanks moss = new PeatBanks();
        for (int row = 0; row < 60; row++) {
            due("cut of row " + row, moss.cut(row / 6, row / 6 * 2), row);
        }
        moss.setDays(3, 7);
        due("60 rows lie", moss.why(3, 7), 3);
        due("no 61st row", moss.cut(3, 7), NOT_POSSIBLE);
        due("no layer before 60 rows", moss.why(3, 6), 2);
        due("60 rows before no right", moss.why(3, 19), 3);
        due("rows lie", moss.count(2), 60);
        due("all are gone", moss.endYear(), 60);
        for (int row = 60; row < 120; row++) {
            int commoner = row / 6 - 10;
            due("cut of row " + row, moss.cut(commoner, commoner * 2 + 1), row);
        }
        due("no layer anywhere", moss.count(8), 0);
        due("rows so far", moss.count(3), 120);
        due("the last row", moss.row(119, 0), 9);
        due("no row behind it", moss.row(120, 0), UNKNOWN);
        write(moss, "s9");
        due("all dry", moss.passAll(), 9);
        due("dry ones", moss.count(5), 60);
        due("the last one stacked", moss.stack(119), 1);
        due("the first of 9", moss.driest(9, 0), 114);
        due("the last of 9", moss.driest(9, 5), 119);
        due("stacked ones", moss.count(4), 1);
        due("brought home", moss.would(60, 1), 1);
        due("rows of 9", moss.commoner(9, 3), 6);
        moss.endYear();
        due("plots stay as they are cut", moss.why(9, 19), 2);
        due("so no cut", moss.cut(9, 19), NOT_POSSIBLE);
    }

    private static void turn() {
        PeatBanks moss = mossWithRowOf(2, 4);
        due("turn(0)", moss.turn(0), 50);
        due("is turned", moss.row(0, 3), 1);
        due("turn again", moss.turn(0), NONE);
        due("turn(1)", moss.turn(1), UNKNOWN);
        moss.pass(0);
        due("still turned behind a day", moss.turn(0), NONE);
        moss.cut(2, 4);
        times(moss, 5, 0);
        due("wetness of the other", moss.row(1, 2), 20);
        moss.stack(1);
        due("stacked", moss.turn(1), NOT_POSSIBLE);
        moss.stack(0);
        due("stacked and turned", moss.turn(0), NOT_POSSIBLE);
        for (int value : WRONG) {
            due("turn wrong row", moss.turn(value), UNKNOWN);
        }
        due("turning uses no day", moss.commoner(2, 1), 2);
    }

    private static void stack() {
        PeatBanks moss = mossWithRowOf(4, 8);
        moss.cut(4, 8);
        moss.turn(1);
        due("wet row", moss.stack(0), NOT_POSSIBLE);
        times(moss, 3, 0);
        moss.pass(1);
        due("29 is wet", moss.row(0, 2), 29);
        due("21 is wet", moss.row(1, 2), 21);
        due("21 is not dry", moss.row(1, 5), 0);
        due("21 is not stacked", moss.stack(1), NOT_POSSIBLE);
        moss.pass(1);
        moss.pass(0);
        due("20 is dry", moss.row(0, 5), 1);
        due("20 is stacked", moss.stack(0), 1);
        due("again", moss.stack(0), NONE);
        due("a second one", moss.stack(1), 2);
        due("is stacked", moss.row(1, 4), 1);
        moss.pass(2);
        due("stacked stays as it is", moss.row(0, 2), 20);
        moss.pass(0);
        due("in the sun, too", moss.row(0, 2), 20);
        for (int value : WRONG) {
            due("stack wrong row", moss.stack(value), UNKNOWN);
        }
        due("stack(2)", moss.stack(2), UNKNOWN);
        due("stacking uses no day", moss.commoner(4, 1), 2);
        due("no cart for 4 yet", moss.pass(0), 0);
        due("the cart 1 comes to 4", moss.pass(0), 2);
        due("it is no row then", moss.stack(0), UNKNOWN);
    }

    private static void pass() {
        PeatBanks moss = mossWithRowOf(9, 18);
        moss.cut(9, 18);
        moss.turn(1);
        due("pass(0)", moss.pass(0), 0);
        due("sun", moss.row(0, 2), 44);
        due("sun, turned", moss.row(1, 2), 42);
        moss.pass(1);
        due("cloud", moss.row(0, 2), 41);
        due("cloud, turned", moss.row(1, 2), 37);
        moss.pass(2);
        due("rain", moss.row(0, 2), 45);
        due("rain, turned", moss.row(1, 2), 41);
        due("days of the year", moss.count(0), 3);
        due("carts go on", moss.cart(0), 3);
        due("pass(3)", moss.pass(3), BAD_VALUE);
        for (int value : WRONG) {
            due("pass wrong weather", moss.pass(value), BAD_VALUE);
        }
        due("no day by that", moss.count(0), 3);
        due("no state by that", moss.count(13), 4);
    }

    private static void wetnessStaysInBounds() {
        PeatBanks moss = mossWithRowOf(0, 0);
        times(moss, 2, 2);
        due("58", moss.row(0, 2), 58);
        moss.pass(2);
        due("60 at most", moss.row(0, 2), 60);
        due("60 brings nothing", moss.row(0, 6), 0);
        times(moss, 10, 0);
        due("0", moss.row(0, 2), 0);
        due("0 brings 40", moss.row(0, 6), 40);
        moss.turn(0);
        moss.pass(2);
        moss.pass(0);
        due("0 at least", moss.row(0, 2), 0);
    }

    /** Five dry rows of the commoner 8, three of them turned, of which the row 1 is stacked. */
    private static PeatBanks fiveDryRows() {
        PeatBanks moss = new PeatBanks();
        for (int row = 0; row < 5; row++) {
            moss.cut(8, 16);
        }
        moss.turn(1);
        moss.turn(2);
        moss.turn(4);
        times(moss, 5, 0);
        moss.stack(1);
        return moss;
    }

    private static void cartsTakeTheDriest() {
        PeatBanks moss = fiveDryRows();
        due("one is stacked", moss.commoner(8, 4), 1);
        due("wetness of 1", moss.row(1, 2), 10);
        due("wetness of 0", moss.row(0, 2), 20);
        moss.stack(0);
        moss.stack(3);
        moss.pass(2);
        moss.pass(0);
        due("wetness of 2", moss.row(2, 2), 6);
        moss.stack(2);
        due("wetness of 4", moss.row(4, 2), 6);
        due("all are stacked", moss.stack(4), 5);
        due("cart 0 is at 7", moss.cart(0), 7);
        due("the day of 7", moss.pass(0), 0);
        due("no row home yet", moss.count(6), 0);
        due("the day of 8", moss.pass(2), 3);
        due("row 0 is left", moss.row(0, 0), 8);
        due("row 3 is left", moss.row(3, 0), 8);
        due("row 1 is home", moss.row(1, 0), UNKNOWN);
        due("row 2 is home", moss.row(2, 0), UNKNOWN);
        due("row 4 is home", moss.row(4, 0), UNKNOWN);
        due("no turn of a row at home", moss.turn(1), UNKNOWN);
        due("no stack of a row at home", moss.stack(1), UNKNOWN);
        due("peats", moss.commoner(8, 2), 30 + 34 + 34);
        moss.set(0, 1);
        times(moss, 4, 0);
        due("cart 1 is at 8", moss.cart(1), 8);
        due("one row only", moss.pass(0), 1);
        due("the lower number first", moss.row(0, 0), UNKNOWN);
        due("the higher one lies", moss.row(3, 0), 8);
        due("home so far", moss.count(6), 4);
        due("peats then", moss.commoner(8, 2), 98 + 20);
    }

    private static void cartsGoByTurn() {
        PeatBanks moss = new PeatBanks();
        for (int day = 0; day < 23; day++) {
            due("cart 0 on day " + day, moss.cart(0), day % 10);
            due("cart 1 on day " + day, moss.cart(1), (day + 5) % 10);
            if (day == 7) {
                moss.endYear();
            }
            moss.pass(day % 3);
        }
        moss = new PeatBanks();
        moss.cut(0, 0);
        moss.cut(5, 10);
        write(moss, "s5c5");
        moss.passAll();
        moss.stack(0);
        moss.stack(1);
        due("both carts on one day", moss.pass(0), 2);
        due("hearth of 0", moss.commoner(0, 2), 35);
        due("hearth of 5", moss.commoner(5, 2), 35);
    }

    private static void passAll() {
        PeatBanks moss = mossWithRowOf(4, 8);
        write(moss, "s2cr3s");
        due("seven days", moss.passAll(), 7);
        due("wetness", moss.row(0, 2), 50 - 12 - 3 + 12 - 6);
        due("days", moss.count(0), 7);
        due("cart", moss.cart(0), 7);
        due("text stays", moss.count(14), 6);
        due("one act", moss.count(13), 2);
        due("undone at once", moss.undo(), 1);
        due("no days", moss.count(0), 0);
        write(moss, "s60s60s60s60s60s60s60s60s60s60s60s60s60s60s60s60s60s60s60s60");
        due("1200 days", moss.passAll(), 1200);
        due("1200 days of the year", moss.count(0), 1200);
        write(moss, "sssssssssscccccccccccccccccccccccccccccccccccccccccrrrrrrrrr");
        due("60 groups", moss.passAll(), 60);
        write(moss, "s1");
        due("faulty", moss.passAll(), -102);
        due("no days by that", moss.count(0), 1260);
        due("rain is r", days("r").row(0, 2), 54);
        due("cloud is c", days("c").row(0, 2), 47);
        due("sun is s", days("s").row(0, 2), 44);
        moss = mossWithRowOf(2, 4);
        write(moss, "s7");
        moss.passAll();
        moss.stack(0);
        write(moss, "r9");
        due("nine days", moss.passAll(), 9);
        due("a cart came", moss.count(6), 1);
    }

    private static PeatBanks days(String text) {
        PeatBanks moss = mossWithRowOf(4, 8);
        write(moss, text);
        moss.passAll();
        return moss;
    }

    private static void faultsOfTexts() {
        fault("", -100);
        fault("s", 1);
        fault("s2", 2);
        fault("s9", 9);
        fault("s10", 10);
        fault("s19", 19);
        fault("s20", 20);
        fault("s59", 59);
        fault("s60", 60);
        fault("s1", -102);
        fault("s10c1", -105);
        fault("s1c", -102);
        fault("s1x", -102);
        fault("s1 ", -102);
        fault("s0", -101);
        fault("s02", -101);
        fault("s61", -102);
        fault("s70", -102);
        fault("s600", -103);
        fault("s100", -103);
        fault("s2c3r4", 9);
        fault("scr", 3);
        fault("2", -100);
        fault("0", -100);
        fault("1", -100);
        fault("S", -100);
        fault(" s", -100);
        fault("s s", -101);
        fault("s2.", -102);
        fault("sc/", -102);
        fault("sc:", -102);
        fault("s2:", -102);
        fault("s/", -101);
        fault("s" + (char) 0, -101);
        fault("c" + (char) 1635, -101);
        fault("r" + (char) 65535, -101);
        fault("s5r2c9x", -106);
        fault("srcsrcsrcsrcsrcsrcsrcsrcsrcsrcsrcsrcsrcsrcsrcsrcsrcsrcsrcsr1", -160);
    }

    private static void fault(String text, int want) {
        PeatBanks moss = new PeatBanks();
        write(moss, text);
        due("passAll of '" + text + "'", moss.passAll(), want);
        due("state by '" + text + "'", moss.count(13), want > 0 ? 1 : 0);
        due("days by '" + text + "'", moss.count(0), Math.max(0, want));
    }

    private static void settleWithStakes() {
        PeatBanks moss = new PeatBanks();
        due("none is open", moss.settle(), NONE);
        due("no state by that", moss.count(13), 0);
        moss.cut(2, 6);
        moss.cut(2, 3);
        moss.turn(0);
        moss.set(1, 1);
        moss.lend(6, 9);
        due("the oldest first", moss.settle(), 3);
        due("the row is given", moss.row(0, 0), 3);
        due("it stays turned", moss.row(0, 3), 1);
        due("it is of the plot", moss.row(0, 1), 6);
        due("rows of 2", moss.commoner(2, 3), 1);
        due("rows of 3", moss.commoner(3, 3), 1);
        due("no more days used", moss.commoner(2, 1), 2);
        due("one is left", moss.count(9), 1);
        due("so far", moss.count(10), 2);
        due("the next one", moss.settle(), 1);
        due("then none", moss.settle(), NONE);
    }

    private static void settleRowAtHome() {
        PeatBanks moss = new PeatBanks();
        moss.cut(0, 2);
        moss.cut(0, 2);
        times(moss, 5, 0);
        moss.stack(0);
        moss.stack(1);
        due("both are home", moss.pass(0), 2);
        due("hearth of 0", moss.commoner(0, 2), 40);
        moss.cut(0, 2);
        moss.set(1, 1);
        due("20 peats", moss.settle(), 1);
        due("hearth of 0 then", moss.commoner(0, 2), 20);
        due("hearth of 1 then", moss.commoner(1, 2), 20);
        due("20 more", moss.settle(), 1);
        due("all hearths", moss.count(7), 40);
        due("nothing at 0", moss.commoner(0, 2), 0);
        moss = new PeatBanks();
        moss.set(1, 1);
        moss.cut(0, 2);
        moss.cut(0, 2);
        write(moss, "c10");
        moss.passAll();
        moss.stack(0);
        moss.stack(1);
        moss.set(0, 1);
        due("one is home", moss.pass(1), 1);
        due("hearth", moss.commoner(0, 2), 20);
        due("its peats are given", moss.settle(), 1);
        due("the other row lies", moss.settle(), 1);
        due("it is of 1", moss.row(1, 0), 1);
        due("still stacked", moss.row(1, 4), 1);
        due("stacked ones of 1", moss.commoner(1, 4), 1);
        due("the cart of 1 takes it", moss.pass(1), 1);
        due("hearth of 1", moss.commoner(1, 2), 40);
        due("hearth of 0 behind it", moss.commoner(0, 2), 0);
    }

    private static void settleWithoutStakes() {
        PeatBanks moss = new PeatBanks();
        moss.cut(0, 2);
        moss.cut(0, 2);
        moss.cut(0, 2);
        due("both are to blame", moss.settle(), 10);
        due("one more day is used", moss.commoner(0, 1), 4);
        due("the row stays", moss.row(0, 0), 0);
        due("no day of the other", moss.commoner(1, 1), 0);
        moss.setDays(0, 5);
        due("the second", moss.settle(), 10);
        due("the last day", moss.commoner(0, 1), 5);
        due("the third", moss.settle(), 10);
        due("no day was left", moss.commoner(0, 1), 5);
        due("none is open", moss.count(9), 0);
        due("no more", moss.settle(), NONE);
        moss = new PeatBanks();
        moss.cut(0, 2);
        moss.set(1, 1);
        moss.set(1, 0);
        due("the setting as it is settled", moss.settle(), 10);
    }

    private static void endYear() {
        PeatBanks moss = new PeatBanks();
        moss.cut(0, 0);
        moss.cut(0, 2);
        moss.cut(9, 19);
        moss.lend(5, 9);
        moss.handOver(6, 1);
        moss.setDays(0, 9);
        moss.set(0, 4);
        moss.set(1, 1);
        times(moss, 5, 0);
        moss.stack(0);
        due("one is home", moss.pass(0), 1);
        due("endYear()", moss.endYear(), 2);
        due("days of the year", moss.count(0), 0);
        due("years", moss.count(1), 1);
        due("no rows", moss.count(2), 0);
        due("rows so far", moss.count(3), 3);
        due("row 2 is gone", moss.row(2, 0), UNKNOWN);
        due("rights come back", moss.plot(5, 2), 2);
        due("not lent", moss.plot(5, 3), 0);
        due("owners stay", moss.plot(6, 1), 1);
        due("rights of owners", moss.plot(6, 2), 1);
        due("days used", moss.commoner(0, 1), 0);
        due("days", moss.commoner(0, 0), 9);
        due("disputes are dropped", moss.count(9), 0);
        due("none to settle", moss.settle(), NONE);
        due("disputes so far", moss.count(10), 1);
        due("plots stay cut", moss.plot(0, 0), 5);
        due("hearths stay", moss.commoner(0, 2), 20);
        due("home so far", moss.count(6), 1);
        due("settings stay", moss.count(11) * 10 + moss.count(12), 41);
        due("carts go on", moss.cart(0), 6);
        due("the next number", moss.cut(0, 0), 3);
        due("a new dispute", moss.cut(0, 2), 4);
        due("it is the oldest", moss.dispute(0, 2), 4);
        due("the next year", moss.endYear(), 2);
        due("an empty one", moss.endYear(), 0);
        due("years", moss.count(1), 3);
    }

    private static void type() {
        PeatBanks moss = new PeatBanks();
        for (int length = 1; length <= 60; length++) {
            due("type", moss.type((char) (length * 1000)), length);
        }
        due("61st", moss.type('s'), FULL);
        due("length", moss.count(14), 60);
        due("no act", moss.count(13), 0);
        due("a text of any characters", moss.passAll(), -100);
        moss.clearText();
        due("room again", moss.type((char) 0), 1);
    }

    private static void clearText() {
        PeatBanks moss = new PeatBanks();
        due("empty", moss.clearText(), 0);
        write(moss, "s10");
        due("three", moss.clearText(), 3);
        due("empty then", moss.count(14), 0);
        due("an empty text", moss.passAll(), -100);
        due("no act", moss.count(13), 0);
        moss.type('c');
        due("no old characters", moss.passAll(), 1);
    }

    private static void undo() {
        PeatBanks moss = new PeatBanks();
        moss.cut(0, 2);
        moss.turn(0);
        moss.lend(9, 0);
        write(moss, "s4");
        due("three states", moss.count(13), 3);
        due("undo of lend", moss.undo(), 2);
        due("the right", moss.plot(9, 2), 4);
        due("undo of turn", moss.undo(), 1);
        due("not turned", moss.row(0, 3), 0);
        due("undo of cut", moss.undo(), 0);
        due("no row", moss.row(0, 0), UNKNOWN);
        due("no dispute", moss.count(9) + moss.count(10), 0);
        due("the layer", moss.plot(2, 0), 6);
        due("the day", moss.commoner(0, 1), 0);
        due("the history is empty", moss.undo(), NONE);
        due("the text stays", moss.count(14), 2);
        due("numbers as they were", moss.cut(5, 10), 0);
    }

    private static void historyDropsTheOldest() {
        PeatBanks moss = new PeatBanks();
        for (int days = 7; days <= 12; days++) {
            moss.setDays(0, days);
        }
        due("four states", moss.count(13), 4);
        for (int left = 3; left >= 0; left--) {
            due("undo", moss.undo(), left);
            due("days", moss.commoner(0, 0), left + 8);
        }
        due("no more", moss.undo(), NONE);
        due("the oldest that is kept", moss.commoner(0, 0), 8);
        moss.setDays(0, 15);
        moss.setDays(0, 16);
        moss.undo();
        moss.setDays(0, 17);
        due("two states", moss.count(13), 2);
        moss.undo();
        due("in between", moss.commoner(0, 0), 15);
        moss.undo();
        due("at the start", moss.commoner(0, 0), 8);
    }

    private static void everyActRecords() {
        PeatBanks moss = mossWithRowOf(0, 2);
        due("cut", moss.undo(), 0);
        moss.handOver(0, 5);
        due("handOver", moss.undo(), 0);
        due("owner", moss.plot(0, 1), 0);
        moss.set(0, 6);
        due("set", moss.undo(), 0);
        due("setting", moss.count(11), 3);
        moss.set(1, 1);
        moss.undo();
        due("stakes", moss.count(12), 0);
        moss.pass(0);
        due("pass", moss.undo(), 0);
        due("cart", moss.cart(0), 0);
        moss.endYear();
        due("endYear", moss.undo(), 0);
        due("years", moss.count(1), 0);
        moss.cut(0, 2);
        moss.settle();
        due("settle", moss.undo(), 1);
        due("open again", moss.dispute(0, 2), 0);
        times(moss, 5, 0);
        moss.stack(0);
        due("stack", moss.undo(), 3);
        due("not stacked", moss.row(0, 4), 0);
        moss.stack(0);
        moss.pass(0);
        due("home", moss.count(6) + moss.count(7), 21);
        due("pass with a cart", moss.undo(), 3);
        due("not home", moss.count(6) + moss.count(7), 0);
        due("it lies", moss.row(0, 4), 1);
    }

    private static void whatIsNoActRecordsNothing() {
        PeatBanks moss = new PeatBanks();
        moss.type('s');
        moss.clearText();
        moss.keep();
        moss.would(10, 0);
        moss.why(0, 0);
        moss.driest(0, 0);
        moss.undo();
        moss.set(0, 3);
        moss.lend(0, 0);
        moss.cut(0, 9);
        moss.settle();
        due("no state", moss.count(13), 0);
    }

    private static void keep() {
        PeatBanks moss = mossWithRowOf(3, 6);
        due("one row lies", moss.keep(), 1);
        moss.cut(3, 6);
        due("two rows lie", moss.keep(), 2);
        due("keep is no act", moss.count(13), 2);
        moss.undo();
        moss.undo();
        due("the later one is kept", moss.restore(), 2);
        due("rows so far", moss.count(3), 2);
    }

    private static void restore() {
        PeatBanks moss = new PeatBanks();
        due("no snapshot", moss.restore(), NONE);
        due("no act", moss.count(13), 0);
        moss.cut(3, 5);
        moss.lend(0, 9);
        due("keep", moss.keep(), 1);
        write(moss, "s2");
        moss.turn(0);
        moss.passAll();
        moss.setDays(3, 1);
        due("four states", moss.count(13), 4);
        moss.endYear();
        due("restore", moss.restore(), 1);
        due("an act", moss.count(13), 4);
        due("row", moss.row(0, 2), 50);
        due("not turned", moss.row(0, 3), 0);
        due("lent", moss.plot(0, 2), 9);
        due("days", moss.commoner(3, 0), 6);
        due("dispute", moss.dispute(0, 1), 2);
        due("days of the year", moss.count(0), 0);
        due("cart", moss.cart(1), 5);
        due("the text stays", moss.count(14), 2);
        due("undone", moss.undo(), 3);
        due("as behind the year", moss.count(1), 1);
        moss.endYear();
        due("it stays", moss.restore(), 1);
        moss.turn(0);
        due("it stays as it was", moss.restore(), 1);
        due("row of the snapshot", moss.row(0, 3), 0);
        restoreOverOtherRows();
    }

    /** What was undone is done in another way, so that the same numbers mean other rows and disputes. */
    private static void restoreOverOtherRows() {
        PeatBanks moss = new PeatBanks();
        moss.cut(2, 3);
        moss.cut(2, 4);
        moss.set(1, 1);
        moss.keep();
        moss.undo();
        moss.undo();
        moss.undo();
        moss.cut(7, 16);
        moss.cut(7, 13);
        moss.restore();
        int[] dispute = {2, 1, 0, 3};
        for (int what = 0; what < 4; what++) {
            due("dispute of the snapshot " + what, moss.dispute(0, what), dispute[what]);
        }
        due("owner in the snapshot", moss.row(0, 0), 2);
        due("plot in the snapshot", moss.row(0, 1), 3);
        due("plot in the snapshot, next", moss.row(1, 1), 4);
        due("stakes of the snapshot", moss.count(12), 1);
        moss.undo();
        int[] other = {7, 8, 0, 16};
        int[] next = {7, 6, 1, 13};
        due("two trespasses", moss.count(9), 2);
        for (int what = 0; what < 4; what++) {
            due("dispute of the other way " + what, moss.dispute(0, what), other[what]);
            due("next of the other way " + what, moss.dispute(1, what), next[what]);
        }
        due("stakes of the other way", moss.count(12), 0);
    }

    private static void commoner() {
        PeatBanks moss = new PeatBanks();
        moss.setDays(2, 12);
        moss.cut(2, 4);
        moss.cut(2, 3);
        moss.cut(2, 6);
        moss.cut(3, 5);
        moss.cut(2, 4);
        times(moss, 3, 0);
        moss.turn(0);
        times(moss, 2, 0);
        moss.stack(0);
        moss.stack(4);
        moss.handOver(19, 2);
        moss.lend(4, 8);
        moss.lend(0, 2);
        moss.lend(18, 2);
        due("days", moss.commoner(2, 0), 12);
        due("used", moss.commoner(2, 1), 4);
        due("rows that lie", moss.commoner(2, 3), 4);
        due("stacked", moss.commoner(2, 4), 2);
        due("plots owned", moss.commoner(2, 5), 3);
        due("plots with the right", moss.commoner(2, 6), 4);
        due("disputes of 2", moss.commoner(2, 7), 3);
        due("disputes of 3", moss.commoner(3, 7), 2);
        due("disputes of 1", moss.commoner(1, 7), 1);
        due("disputes of 0", moss.commoner(0, 7), 0);
        moss.settle();
        due("open ones alone", moss.commoner(1, 7), 0);
        due("still two", moss.commoner(2, 7), 2);
        times(moss, 4, 1);
        due("brought home", moss.commoner(2, 2), 24 + 20);
        due("two lie", moss.commoner(2, 3), 2);
        due("none is stacked", moss.commoner(2, 4), 0);
        due("commoner(0, 8)", moss.commoner(0, 8), BAD_VALUE);
        due("commoner(10, 0)", moss.commoner(10, 0), UNKNOWN);
        for (int value : WRONG) {
            due("wrong commoner", moss.commoner(value, 0), UNKNOWN);
            due("commoner before what", moss.commoner(value, 99), UNKNOWN);
            due("wrong what", moss.commoner(0, value), BAD_VALUE);
        }
    }

    private static void plot() {
        PeatBanks moss = mossWithRowOf(6, 13);
        moss.lend(13, 1);
        due("layers", moss.plot(13, 0), 5);
        due("owner", moss.plot(13, 1), 6);
        due("right", moss.plot(13, 2), 1);
        due("lent", moss.plot(13, 3), 1);
        due("another one", moss.plot(12, 3), 0);
        due("plot(13, 4)", moss.plot(13, 4), BAD_VALUE);
        due("plot(20, 0)", moss.plot(20, 0), UNKNOWN);
        for (int value : WRONG) {
            due("wrong plot", moss.plot(value, 0), UNKNOWN);
            due("plot before what", moss.plot(value, 99), UNKNOWN);
            due("wrong what", moss.plot(0, value), BAD_VALUE);
        }
    }

    private static void row() {
        PeatBanks moss = mossWithRowOf(6, 14);
        due("owner", moss.row(0, 0), 6);
        due("plot", moss.row(0, 1), 14);
        due("wetness", moss.row(0, 2), 50);
        due("turned", moss.row(0, 3), 0);
        due("stacked", moss.row(0, 4), 0);
        due("dry", moss.row(0, 5), 0);
        due("it brings nothing yet", moss.row(0, 6), 0);
        moss.pass(0);
        moss.pass(1);
        due("41 brings 0", moss.row(0, 6), 0);
        moss.pass(1);
        due("38 brings 2", moss.row(0, 6), 2);
        times(moss, 3, 0);
        due("20 is dry", moss.row(0, 5), 1);
        due("20 brings 20", moss.row(0, 6), 20);
        due("row(0, 7)", moss.row(0, 7), BAD_VALUE);
        due("row(1, 0)", moss.row(1, 0), UNKNOWN);
        for (int value : WRONG) {
            due("wrong row", moss.row(value, 0), UNKNOWN);
            due("row before what", moss.row(value, 99), UNKNOWN);
            due("wrong what", moss.row(0, value), BAD_VALUE);
        }
    }

    private static void driest() {
        PeatBanks moss = new PeatBanks();
        for (int row = 0; row < 4; row++) {
            moss.cut(7, 14);
        }
        moss.cut(6, 13);
        moss.turn(2);
        moss.turn(3);
        moss.turn(4);
        moss.pass(0);
        int[] order = {2, 3, 0, 1};
        for (int rank = 0; rank < 4; rank++) {
            due("driest " + rank, moss.driest(7, rank), order[rank]);
        }
        due("no fifth one", moss.driest(7, 4), NONE);
        due("of another", moss.driest(6, 0), 4);
        due("of nobody", moss.driest(5, 0), NONE);
        due("driest(7, -1)", moss.driest(7, -1), BAD_VALUE);
        due("a great rank", moss.driest(7, Integer.MAX_VALUE), NONE);
        due("driest(7, least)", moss.driest(7, Integer.MIN_VALUE), BAD_VALUE);
        times(moss, 4, 0);
        moss.stack(1);
        order = new int[] {2, 3, 0, 1};
        for (int rank = 0; rank < 4; rank++) {
            due("stacked ones, too, " + rank, moss.driest(7, rank), order[rank]);
        }
        moss.stack(2);
        times(moss, 8, 2);
        due("home ones no more", moss.driest(7, 0), 3);
        due("driest(10, 0)", moss.driest(10, 0), UNKNOWN);
        for (int value : WRONG) {
            due("wrong commoner", moss.driest(value, 0), UNKNOWN);
            due("commoner before rank", moss.driest(value, -1), UNKNOWN);
        }
    }

    private static void why() {
        PeatBanks moss = new PeatBanks();
        due("his own", moss.why(4, 8), 0);
        due("beside below", moss.why(4, 7), 0);
        due("beside above", moss.why(4, 10), 0);
        due("further below", moss.why(4, 6), 4);
        due("further above", moss.why(4, 11), 4);
        due("the ends do not meet", moss.why(0, 19), 4);
        due("nor here", moss.why(9, 0), 4);
        for (int layer = 0; layer < 6; layer++) {
            moss.cut(4, 8);
        }
        due("days before layers", moss.why(4, 8), 1);
        due("days before rights", moss.why(4, 0), 1);
        moss.setDays(4, 7);
        due("no layer", moss.why(4, 8), 2);
        due("layers before rights", moss.why(0, 8), 2);
        due("another plot", moss.why(4, 9), 0);
        moss.setDays(4, 6);
        due("as many as used", moss.why(4, 9), 1);
        moss.setDays(4, 2);
        due("fewer than used", moss.why(4, 9), 1);
        moss.lend(0, 9);
        due("lent to 9", moss.why(9, 0), 0);
        due("beside what is lent", moss.why(9, 1), 0);
        due("the lender from beside", moss.why(0, 0), 0);
        moss.lend(1, 9);
        due("the lender of both", moss.why(0, 0), 4);
        due("why(10, 0)", moss.why(10, 0), UNKNOWN);
        due("why(0, 20)", moss.why(0, 20), UNKNOWN);
        for (int value : WRONG) {
            due("wrong commoner", moss.why(value, 0), UNKNOWN);
            due("wrong plot", moss.why(0, value), UNKNOWN);
        }
    }

    private static void dispute() {
        PeatBanks moss = mossWithRowOf(0, 0);
        moss.cut(1, 4);
        moss.lend(7, 9);
        moss.cut(3, 7);
        moss.lend(7, 5);
        int[] first = {1, 2, 1, 4};
        int[] second = {3, 9, 2, 7};
        for (int what = 0; what < 4; what++) {
            due("the oldest " + what, moss.dispute(0, what), first[what]);
            due("the next " + what, moss.dispute(1, what), second[what]);
        }
        due("no third one", moss.dispute(2, 0), NONE);
        due("a great rank", moss.dispute(Integer.MAX_VALUE, 3), NONE);
        due("dispute(0, 4)", moss.dispute(0, 4), BAD_VALUE);
        due("what before NONE", moss.dispute(9, 4), BAD_VALUE);
        moss.settle();
        for (int what = 0; what < 4; what++) {
            due("then the oldest " + what, moss.dispute(0, what), second[what]);
        }
        due("no second one", moss.dispute(1, 0), NONE);
        due("dispute(-1, 0)", moss.dispute(-1, 0), BAD_VALUE);
        due("dispute(least, 0)", moss.dispute(Integer.MIN_VALUE, 0), BAD_VALUE);
        for (int value : WRONG) {
            due("wrong what", moss.dispute(0, value), BAD_VALUE);
        }
    }

    private static void cart() {
        PeatBanks moss = new PeatBanks();
        times(moss, 7, 1);
        due("cart 0", moss.cart(0), 7);
        due("cart 1", moss.cart(1), 2);
        due("cart(2)", moss.cart(2), UNKNOWN);
        for (int value : WRONG) {
            due("wrong cart", moss.cart(value), UNKNOWN);
        }
    }

    private static void would() {
        PeatBanks moss = new PeatBanks();
        for (int row = 0; row < 5; row++) {
            moss.cut(3, 6);
        }
        moss.cut(8, 16);
        due("nothing is stacked", moss.would(60, 0), 0);
        times(moss, 5, 0);
        for (int row = 0; row < 6; row++) {
            moss.stack(row);
        }
        due("states", moss.count(13), 4);
        due("count of stacked ones", moss.count(4), 6);
        due("count of dry ones", moss.count(5), 6);
        due("one day", moss.would(1, 2), 0);
        due("three days", moss.would(3, 0), 0);
        due("four days", moss.would(4, 2), 4);
        due("eight days", moss.would(8, 1), 4);
        due("nine days", moss.would(9, 0), 6);
        due("60 days", moss.would(60, 0), 6);
        due("nothing is done", moss.count(2), 6);
        due("nor days", moss.count(0), 5);
        due("nor carts", moss.cart(0), 5);
        due("nor peats", moss.count(7), 0);
        due("nor states", moss.count(13), 4);
        moss.set(0, 1);
        due("smaller carts", moss.would(9, 0), 3);
        due("would(0, 0)", moss.would(0, 0), BAD_VALUE);
        due("would(61, 0)", moss.would(61, 0), BAD_VALUE);
        due("would(1, 3)", moss.would(1, 3), BAD_VALUE);
        for (int value : WRONG) {
            due("wrong days", moss.would(value, 0), BAD_VALUE);
            due("wrong weather", moss.would(1, value), BAD_VALUE);
        }
    }

    private static void count() {
        PeatBanks moss = new PeatBanks();
        moss.endYear();
        moss.cut(1, 2);
        moss.cut(1, 4);
        moss.cut(1, 1);
        moss.cut(1, 2);
        moss.cut(6, 12);
        moss.settle();
        times(moss, 5, 0);
        moss.cut(6, 12);
        moss.stack(0);
        moss.stack(4);
        moss.stack(1);
        moss.pass(0);
        moss.set(0, 1);
        moss.pass(1);
        moss.set(0, 5);
        moss.set(1, 1);
        moss.turn(5);
        write(moss, "s3");
        int[] counts = {7, 1, 4, 6, 1, 3, 2, 40, 114, 1, 2, 5, 1, 4, 2};
        for (int what = 0; what < 15; what++) {
            due("count(" + what + ")", moss.count(what), counts[what]);
        }
        due("count(15)", moss.count(15), BAD_VALUE);
        for (int value : WRONG) {
            due("wrong what", moss.count(value), BAD_VALUE);
        }
    }
}
