/**
 * For each sentence of the document that names a boundary case, in the document's order, a test of its own:
 * the least and the greatest value and those just beyond, empty and full, what begins again at 0. What stands
 * in quotes above a test is the sentence. That refused calls change nothing is tested in RefusedCalls.java.
 * No object is asked more than 512 times.
 */
public final class BoundaryTests {
    private static final int UNKNOWN = -1;
    private static final int BAD_VALUE = -2;
    private static final int FULL = -3;
    private static final int NOT_POSSIBLE = -4;
    private static final int NONE = -5;

    private static final int SUN = 0;
    private static final int CLOUD = 1;
    private static final int RAIN = 2;

    private static int wrong = 0;

    private static void due(String what, int got, int want) {
        if (got != want) {
            wrong++;
            System.out.println(what + " answered " + got + ", due is " + want);
        }
    }

    public static void main(String[] args) {
        whatItIs();
        plotsAndCommoners();
        cuttingAndDrying();
        carts();
        trespassAndDisputes();
        theYear();
        texts();
        history();
        whatIsTold();
        System.out.println(wrong == 0 ? "all boundaries are as due" : wrong + " answers are not as due");
        if (wrong != 0) {
            System.exit(1);
        }
    }

    // ---- helpers

    private static void times(PeatBanks moss, int days, int weather) {
        for (int day = 0; day < days; day++) {
            moss.pass(weather);
        }
    }

    private static void write(PeatBanks moss, String text) {
        for (int at = 0; at < text.length(); at++) {
            moss.type(text.charAt(at));
        }
    }

    private static PeatBanks mossWithText(String text) {
        PeatBanks moss = new PeatBanks();
        write(moss, text);
        return moss;
    }

    private static PeatBanks mossWithRowOf(int commoner, int plot) {
        PeatBanks moss = new PeatBanks();
        moss.cut(commoner, plot);
        return moss;
    }

    /** 60 calls: each commoner has cut the six layers of a plot, and has no day left. */
    private static PeatBanks sixtyRows() {
        PeatBanks moss = new PeatBanks();
        for (int row = 0; row < 60; row++) {
            moss.cut(row / 6, row / 6 * 2);
        }
        return moss;
    }

    /** 125 calls: the 60 rows are dry and stacked. */
    private static PeatBanks sixtyStackedRows() {
        PeatBanks moss = sixtyRows();
        times(moss, 5, SUN);
        for (int row = 0; row < 60; row++) {
            moss.stack(row);
        }
        return moss;
    }

    /** The row 0 of the commoner 4, behind days in the order of the letters s, c, r and t (it is turned). */
    private static PeatBanks rowBehind(String days) {
        PeatBanks moss = mossWithRowOf(4, 8);
        for (int at = 0; at < days.length(); at++) {
            switch (days.charAt(at)) {
                case 't':
                    moss.turn(0);
                    break;
                case 's':
                    moss.pass(SUN);
                    break;
                case 'c':
                    moss.pass(CLOUD);
                    break;
                default:
                    moss.pass(RAIN);
            }
        }
        return moss;
    }

    private static int wetnessBehind(String days) {
        return rowBehind(days).row(0, 2);
    }

    // ---- what it is

    private static void whatItIs() {
        upToTheCall512();
    }

    /** "An object is used for at most 512 calls": the last ones answer as the first ones. */
    private static void upToTheCall512() {
        PeatBanks moss = sixtyRows();
        write(moss, "s60s60s60s60s60s60s60s60s60s60s60s60s60s60s60s60s60s60s60s60");
        for (int call = 121; call <= 510; call++) {
            due("passAll as call " + call, moss.passAll(), 1200);
        }
        due("count(0) as call 511", moss.count(0), 390 * 1200);
        due("undo as call 512", moss.undo(), 3);
    }

    // ---- plots and commoners

    private static void plotsAndCommoners() {
        tenCommoners();
        twentyPlots();
        twoPlotsEachAtFirst();
        layersFromSixToNone();
        daysFromNoneToTwenty();
        someDaysAreUsed();
        lentUntilGivenBack();
        lentUntilTheYearEnds();
        lentToAnother();
        handedOver();
    }

    /** "There are 10 commoners, numbered from 0." */
    private static void tenCommoners() {
        for (int commoner = 0; commoner <= 9; commoner += 9) {
            PeatBanks moss = new PeatBanks();
            due("lend(10, c)", moss.lend(10, commoner), 5);
            due("handOver(11, c)", moss.handOver(11, commoner), 5);
            due("setDays(c, 7)", moss.setDays(commoner, 7), 6);
            due("why(c, 10)", moss.why(commoner, 10), 0);
            due("cut(c, 10)", moss.cut(commoner, 10), 0);
            due("commoner(c, 6)", moss.commoner(commoner, 6), 4);
            due("driest(c, 0)", moss.driest(commoner, 0), 0);
        }
        int[] beyond = {Integer.MIN_VALUE, -1, 10, Integer.MAX_VALUE};
        for (int commoner : beyond) {
            PeatBanks moss = mossWithRowOf(0, 0);
            due("lend(10, " + commoner + ")", moss.lend(10, commoner), UNKNOWN);
            due("handOver(10, " + commoner + ")", moss.handOver(10, commoner), UNKNOWN);
            due("setDays(" + commoner + ", 7)", moss.setDays(commoner, 7), UNKNOWN);
            due("why(" + commoner + ", 0)", moss.why(commoner, 0), UNKNOWN);
            due("cut(" + commoner + ", 0)", moss.cut(commoner, 0), UNKNOWN);
            due("commoner(" + commoner + ", 0)", moss.commoner(commoner, 0), UNKNOWN);
            due("driest(" + commoner + ", 0)", moss.driest(commoner, 0), UNKNOWN);
        }
    }

    /** "... and 20 plots in a row along the bank, numbered from 0." */
    private static void twentyPlots() {
        for (int plot = 0; plot <= 19; plot += 19) {
            PeatBanks moss = new PeatBanks();
            int owner = plot / 2;
            due("plot(p, 0)", moss.plot(plot, 0), 6);
            due("why(owner, p)", moss.why(owner, plot), 0);
            due("cut(owner, p)", moss.cut(owner, plot), 0);
            due("lend(p, 4)", moss.lend(plot, 4), owner);
            due("handOver(p, 5)", moss.handOver(plot, 5), owner);
            due("plot(p, 1)", moss.plot(plot, 1), 5);
        }
        int[] beyond = {Integer.MIN_VALUE, -1, 20, Integer.MAX_VALUE};
        for (int plot : beyond) {
            PeatBanks moss = new PeatBanks();
            due("plot(" + plot + ", 0)", moss.plot(plot, 0), UNKNOWN);
            due("why(0, " + plot + ")", moss.why(0, plot), UNKNOWN);
            due("why(9, " + plot + ")", moss.why(9, plot), UNKNOWN);
            due("cut(0, " + plot + ")", moss.cut(0, plot), UNKNOWN);
            due("cut(9, " + plot + ")", moss.cut(9, plot), UNKNOWN);
            due("lend(" + plot + ", 4)", moss.lend(plot, 4), UNKNOWN);
            due("handOver(" + plot + ", 5)", moss.handOver(plot, 5), UNKNOWN);
        }
    }

    /** "At first the commoner k has the plots 2 * k and 2 * k + 1, as an owner." */
    private static void twoPlotsEachAtFirst() {
        PeatBanks moss = new PeatBanks();
        for (int commoner = 0; commoner < 10; commoner++) {
            due("owner of 2k", moss.plot(2 * commoner, 1), commoner);
            due("owner of 2k + 1", moss.plot(2 * commoner + 1, 1), commoner);
            due("right to 2k", moss.plot(2 * commoner, 2), commoner);
            due("right to 2k + 1", moss.plot(2 * commoner + 1, 2), commoner);
            due("plots owned", moss.commoner(commoner, 5), 2);
            due("plots with the right", moss.commoner(commoner, 6), 2);
        }
    }

    /** "A plot has layers of peat (0 to 6; 6 at first)." */
    private static void layersFromSixToNone() {
        PeatBanks moss = new PeatBanks();
        moss.setDays(9, 7);
        for (int layers = 6; layers >= 1; layers--) {
            due("layers", moss.plot(19, 0), layers);
            due("a layer is left", moss.why(9, 19), 0);
            due("cut of it", moss.cut(9, 19), 6 - layers);
        }
        due("no layers", moss.plot(19, 0), 0);
        due("no layer is left", moss.why(9, 19), 2);
        due("no seventh layer", moss.cut(9, 19), NOT_POSSIBLE);
        due("still none", moss.plot(19, 0), 0);
        due("the plot beside", moss.plot(18, 0), 6);
        due("layers of all plots", moss.count(8), 114);
    }

    /** "Each commoner has cutting days of a year (0 to 20; 6 at first) ..." */
    private static void daysFromNoneToTwenty() {
        PeatBanks moss = new PeatBanks();
        due("six at first", moss.commoner(9, 0), 6);
        due("none", moss.setDays(9, 0), 6);
        due("none again", moss.setDays(9, 0), NONE);
        due("no day", moss.why(9, 19), 1);
        due("no cut", moss.cut(9, 19), NOT_POSSIBLE);
        due("one below", moss.setDays(9, -1), BAD_VALUE);
        due("one", moss.setDays(9, 1), 0);
        due("a day", moss.why(9, 19), 0);
        due("the one cut", moss.cut(9, 19), 0);
        due("no second one", moss.cut(9, 19), NOT_POSSIBLE);
        due("twenty", moss.setDays(9, 20), 1);
        due("twenty again", moss.setDays(9, 20), NONE);
        due("one more", moss.setDays(9, 21), BAD_VALUE);
        due("the least", moss.setDays(9, Integer.MIN_VALUE), BAD_VALUE);
        due("the greatest", moss.setDays(9, Integer.MAX_VALUE), BAD_VALUE);
        due("six at first, again", moss.setDays(8, 6), NONE);
        due("commoner before days", moss.setDays(10, 21), UNKNOWN);
        moss.lend(17, 9);
        moss.lend(16, 9);
        for (int row = 1; row < 20; row++) {
            due("cut of row " + row, moss.cut(9, 19 - row / 6), row);
        }
        due("all are used", moss.commoner(9, 1), 20);
        due("no day for a 21st", moss.why(9, 16), 1);
        due("no 21st", moss.cut(9, 16), NOT_POSSIBLE);
    }

    /** "... of which some are used." */
    private static void someDaysAreUsed() {
        PeatBanks moss = new PeatBanks();
        due("none at first", moss.commoner(3, 1), 0);
        for (int used = 1; used <= 6; used++) {
            due("a day is left", moss.why(3, 6), 0);
            moss.cut(3, 7 - used % 2);
            due("used", moss.commoner(3, 1), used);
        }
        due("no day is left", moss.why(3, 6), 1);
        due("one day less", moss.setDays(3, 5), 6);
        due("used more than there are", moss.commoner(3, 1), 6);
        due("no day is left then", moss.why(3, 6), 1);
        due("one day more", moss.setDays(3, 7), 5);
        due("one is left", moss.why(3, 6), 0);
    }

    /** "... then that one cuts there, and the owner does not, until it is given back ..." */
    private static void lentUntilGivenBack() {
        PeatBanks moss = new PeatBanks();
        due("not lent", moss.plot(0, 3), 0);
        due("before it is lent", moss.why(9, 0), 4);
        due("lend", moss.lend(0, 9), 0);
        due("lend the other", moss.lend(1, 9), 0);
        due("lent", moss.plot(0, 3), 1);
        due("that one cuts there", moss.why(9, 0), 0);
        due("the owner does not", moss.why(0, 0), 4);
        due("nor there", moss.cut(0, 1), NOT_POSSIBLE);
        due("the owner has no right", moss.commoner(0, 6), 0);
        due("it is owned all the same", moss.commoner(0, 5), 2);
        due("by right", moss.cut(9, 0), 0);
        due("without a dispute", moss.count(10), 0);
        due("given back", moss.lend(0, 0), 9);
        due("not lent then", moss.plot(0, 3), 0);
        due("the owner cuts again", moss.why(0, 0), 0);
        due("the other from beside alone", moss.cut(9, 0), 1);
        due("with a dispute", moss.count(10), 1);
        due("the other one is given back, too", moss.lend(1, 0), 9);
        due("not even from beside", moss.why(9, 0), 4);
    }

    /** "... or the year ends." */
    private static void lentUntilTheYearEnds() {
        PeatBanks moss = new PeatBanks();
        moss.lend(0, 9);
        moss.lend(19, 0);
        moss.lend(19, 5);
        moss.endYear();
        due("the first plot", moss.plot(0, 2), 0);
        due("the last plot", moss.plot(19, 2), 9);
        due("not lent", moss.plot(0, 3) + moss.plot(19, 3), 0);
        due("the borrower of the first", moss.why(9, 0), 4);
        due("the borrower of the last", moss.why(5, 19), 4);
        due("the owner of the last", moss.why(9, 19), 0);
    }

    /** "Returns the commoner who had the right; ... NONE if that one has it already." */
    private static void lentToAnother() {
        PeatBanks moss = new PeatBanks();
        due("to the owner, who has it", moss.lend(12, 6), NONE);
        due("to another", moss.lend(12, 7), 6);
        due("to that one again", moss.lend(12, 7), NONE);
        due("on to a third", moss.lend(12, 8), 7);
        due("back to the second", moss.lend(12, 7), 8);
        due("three states", moss.count(13), 3);
    }

    /** "Gives a plot another owner, who has the right then. ... Returns the previous owner; ... NONE if it is the same." */
    private static void handedOver() {
        PeatBanks moss = new PeatBanks();
        due("to the owner", moss.handOver(12, 6), NONE);
        due("no state", moss.count(13), 0);
        moss.lend(12, 7);
        due("lent, to the owner", moss.handOver(12, 6), NONE);
        due("it stays lent", moss.plot(12, 2), 7);
        due("lent, to a third", moss.handOver(12, 8), 6);
        due("right of the third", moss.plot(12, 2), 8);
        moss.lend(12, 7);
        due("lent, to the borrower", moss.handOver(12, 7), 8);
        due("lent no more", moss.plot(12, 3), 0);
        moss.endYear();
        due("no way back with the year", moss.plot(12, 1) * 10 + moss.plot(12, 2), 77);
        for (int plot = 0; plot < 20; plot++) {
            moss.handOver(plot, 5);
        }
        due("all plots of one", moss.commoner(5, 5), 20);
        due("all rights of one", moss.commoner(5, 6), 20);
        due("none of another", moss.commoner(7, 5) + moss.commoner(7, 6), 0);
    }

    // ---- cutting and drying

    private static void cuttingAndDrying() {
        oneLayerOneRowOneDay();
        atMostSixtyRows();
        roomBehindACart();
        numbersFromNoneNeverAgain();
        rowOfWhoCutIt();
        weatherOfADay();
        weathersInRange();
        wetnessAtMostSixty();
        wetnessAtLeastNone();
        dryAtMostTwenty();
        stackedStaysAsItIs();
        turningAndStackingNeedNoDay();
        onlyDryRowsAreStacked();
        turningOnce();
    }

    /** "To cut, a commoner takes one layer of a plot, which becomes a row of 40 peats; it uses one cutting day." */
    private static void oneLayerOneRowOneDay() {
        PeatBanks moss = mossWithRowOf(4, 9);
        due("one layer", moss.plot(9, 0), 5);
        due("one row", moss.count(2), 1);
        due("one day", moss.commoner(4, 1), 1);
        due("no day of another", moss.commoner(5, 1), 0);
        due("at its plot", moss.row(0, 1), 9);
        due("not turned, stacked or dry", moss.row(0, 3) + moss.row(0, 4) + moss.row(0, 5), 0);
        times(moss, 10, SUN);
        due("40 peats", moss.row(0, 6), 40);
        moss.stack(0);
        due("no cart before the fifth day", moss.would(4, SUN), 0);
        times(moss, 5, SUN);
        due("40 at the hearth", moss.commoner(4, 2), 40);
    }

    /** "At most 60 rows lie at a time"; "3 60 rows lie already". */
    private static void atMostSixtyRows() {
        PeatBanks moss = sixtyRows();
        due("60 lie", moss.count(2), 60);
        moss.setDays(0, 20);
        due("no 61st", moss.cut(0, 1), NOT_POSSIBLE);
        due("why", moss.why(0, 1), 3);
        moss.undo();
        moss.undo();
        moss.setDays(9, 20);
        due("59 lie", moss.count(2), 59);
        due("why not", moss.why(9, 19), 0);
        due("a 60th", moss.cut(9, 19), 59);
        due("why", moss.why(9, 19), 3);
        due("60 are gone", moss.endYear(), 60);
        due("none lies", moss.count(2), 0);
        due("room again", moss.why(9, 19), 0);
        due("the next", moss.cut(9, 19), 60);
    }

    /** A row that is home lies no more: there is room for just as many. */
    private static void roomBehindACart() {
        PeatBanks moss = sixtyRows();
        moss.setDays(0, 20);
        times(moss, 5, SUN);
        moss.stack(59);
        due("stacked ones lie", moss.why(0, 1), 3);
        times(moss, 4, RAIN);
        due("the cart 0 is at 9", moss.cart(0), 9);
        due("still 60", moss.why(0, 1), 3);
        due("the row 59", moss.pass(RAIN), 1);
        due("room for one", moss.why(0, 1), 0);
        due("it is taken", moss.cut(0, 1), 60);
        due("no room", moss.why(0, 1), 3);
        due("60 lie", moss.count(2), 60);
    }

    /** "... they are numbered from 0 in the order in which they were cut (never given again)." */
    private static void numbersFromNoneNeverAgain() {
        PeatBanks moss = new PeatBanks();
        due("no row 0", moss.row(0, 0), UNKNOWN);
        for (int row = 0; row < 60; row++) {
            due("number", moss.cut(row / 6, row / 6 * 2), row);
        }
        due("the first", moss.row(0, 1), 0);
        due("the last", moss.row(59, 1), 18);
        due("none behind it", moss.row(60, 1), UNKNOWN);
        moss.endYear();
        due("the first is gone", moss.row(0, 1), UNKNOWN);
        due("the last is gone", moss.row(59, 1), UNKNOWN);
        for (int row = 60; row < 120; row++) {
            due("number", moss.cut((row - 60) / 6, (row - 60) / 6 * 2 + 1), row);
        }
        due("row 60", moss.row(60, 1), 1);
        due("row 119", moss.row(119, 1), 19);
        due("no row 120", moss.row(120, 1), UNKNOWN);
        due("turn of 119", moss.turn(119), 50);
        due("turn of 120", moss.turn(120), UNKNOWN);
        due("rows so far", moss.count(3), 120);
        due("no layer at all", moss.count(8), 0);
        times(moss, 5, SUN);
        due("wetness of 118", moss.row(118, 2), 20);
        due("wetness of 119, turned", moss.row(119, 2), 10);
        due("stack of 119", moss.stack(119), 1);
        due("the driest of 9", moss.driest(9, 0), 119);
        due("the last one of 9", moss.driest(9, 5), 118);
        due("119 would come home", moss.would(60, SUN), 1);
        times(moss, 4, SUN);
        due("119 comes home", moss.pass(SUN), 1);
        due("119 is home", moss.row(119, 0), UNKNOWN);
        due("59 are gone", moss.endYear(), 59);
        due("no cut ever", moss.cut(9, 19), NOT_POSSIBLE);
        due("for want of layers", moss.why(9, 19), 2);
    }

    /** "A row belongs to whoever cut it, and has wetness: 50 at first." */
    private static void rowOfWhoCutIt() {
        PeatBanks moss = mossWithRowOf(0, 2);
        due("of the trespasser", moss.row(0, 0), 0);
        due("wetness", moss.row(0, 2), 50);
        moss.lend(19, 4);
        due("by a lent right", moss.cut(4, 19), 1);
        due("of the borrower", moss.row(1, 0), 4);
        moss.lend(19, 9);
        due("given back, the row is not", moss.row(1, 0), 4);
    }

    /** "... becomes less by 6 for sun and by 3 for cloud, each 2 more if the row was turned, and more by 4 for rain." */
    private static void weatherOfADay() {
        due("sun", wetnessBehind("s"), 44);
        due("cloud", wetnessBehind("c"), 47);
        due("rain", wetnessBehind("r"), 54);
        due("sun, turned", wetnessBehind("ts"), 42);
        due("cloud, turned", wetnessBehind("tc"), 45);
        due("rain, turned", wetnessBehind("tr"), 54);
        due("turned behind the day", wetnessBehind("st"), 44);
    }

    /** "In a day of weather w (0 sun, 1 cloud, 2 rain)"; pass: "Returns how many rows are brought home; BAD_VALUE." */
    private static void weathersInRange() {
        PeatBanks moss = new PeatBanks();
        for (int weather = SUN; weather <= RAIN; weather++) {
            due("pass where no row lies", moss.pass(weather), 0);
        }
        due("weather -1", moss.pass(-1), BAD_VALUE);
        due("weather 3", moss.pass(3), BAD_VALUE);
        due("the least weather", moss.pass(Integer.MIN_VALUE), BAD_VALUE);
        due("the greatest weather", moss.pass(Integer.MAX_VALUE), BAD_VALUE);
        due("three days", moss.count(0), 3);
        moss = sixtyRows();
        due("pass where 60 lie", moss.pass(SUN), 0);
        due("the first is drier", moss.row(0, 2), 44);
        due("the last is drier", moss.row(59, 2), 44);
    }

    /** "... it stays within 0 to 60": not more. */
    private static void wetnessAtMostSixty() {
        due("56", wetnessBehind("srrr"), 56);
        due("56 and 4", wetnessBehind("srrrr"), 60);
        due("60 and 4", wetnessBehind("srrrrr"), 60);
        due("59 and 4", wetnessBehind("crrrr"), 60);
        due("58 and 4", wetnessBehind("rrr"), 60);
        due("60 less 6, as it was not more", wetnessBehind("rrrs"), 54);
        due("turned, too", wetnessBehind("trrrr"), 60);
    }

    /** "... it stays within 0 to 60": not less. */
    private static void wetnessAtLeastNone() {
        due("6", wetnessBehind("rssssssss"), 6);
        due("6 less 6", wetnessBehind("rsssssssss"), 0);
        due("0 less 6", wetnessBehind("rssssssssss"), 0);
        due("2 less 6", wetnessBehind("sssssssss"), 0);
        due("2 less 3", wetnessBehind("ssssssssc"), 0);
        due("2 less 8", wetnessBehind("tsssssss"), 0);
        due("2 less 5, turned", wetnessBehind("sssssssstc"), 0);
        due("5 less 5, turned", wetnessBehind("tcccccccccc"), 0);
        due("0 and 4, as it was not less", wetnessBehind("sssssssssr"), 4);
    }

    /** "A row is dry if its wetness is at most 20." */
    private static void dryAtMostTwenty() {
        String[] days = {"sssscc", "ssssscr", "sssss", "tscccccr", "ttsssss", "sssssssss"};
        int[] wetness = {20, 21, 20, 21, 10, 0};
        int dry = 0;
        for (int at = 0; at < days.length; at++) {
            PeatBanks moss = rowBehind(days[at]);
            due("wetness behind " + days[at], moss.row(0, 2), wetness[at]);
            due("dry behind " + days[at], moss.row(0, 5), wetness[at] <= 20 ? 1 : 0);
            due("counted behind " + days[at], moss.count(5), wetness[at] <= 20 ? 1 : 0);
            dry += moss.count(5);
        }
        due("four are dry", dry, 4);
        due("dry no more behind rain", rowBehind("sssssr").row(0, 5), 0);
    }

    /** "A stacked row stays as it is." */
    private static void stackedStaysAsItIs() {
        for (int weather = SUN; weather <= RAIN; weather++) {
            PeatBanks moss = rowBehind("sssss");
            moss.cut(4, 8);
            moss.stack(0);
            due("wetness before", moss.row(0, 2), 20);
            times(moss, 4, weather);
            due("wetness stays", moss.row(0, 2), 20);
            due("dry stays", moss.row(0, 5), 1);
            due("stacked stays", moss.row(0, 4), 1);
            due("the other does not stay", moss.row(1, 2), new int[] {26, 38, 60}[weather]);
        }
    }

    /** "To turn and to stack a row its owner needs no day." */
    private static void turningAndStackingNeedNoDay() {
        PeatBanks moss = mossWithRowOf(4, 8);
        moss.setDays(4, 1);
        due("no day is left", moss.why(4, 8), 1);
        due("turn", moss.turn(0), 50);
        times(moss, 4, SUN);
        moss.setDays(4, 0);
        due("stack", moss.stack(0), 1);
        due("one is used, by the cut", moss.commoner(4, 1), 1);
    }

    /** "Only dry rows are stacked." */
    private static void onlyDryRowsAreStacked() {
        due("21", rowBehind("ssssscr").stack(0), NOT_POSSIBLE);
        due("20", rowBehind("sssscc").stack(0), 1);
        due("0", rowBehind("sssssssss").stack(0), 1);
        due("50", rowBehind("").stack(0), NOT_POSSIBLE);
        due("60", rowBehind("rrr").stack(0), NOT_POSSIBLE);
        PeatBanks moss = sixtyRows();
        times(moss, 5, SUN);
        for (int row = 0; row < 60; row++) {
            due("stacked ones of its owner", moss.stack(row), row % 6 + 1);
        }
        due("60 stacked", moss.count(4), 60);
        due("60 dry", moss.count(5), 60);
        due("again", moss.stack(59), NONE);
    }

    /** turn: "Returns its wetness; UNKNOWN; NOT_POSSIBLE if it is stacked; NONE if it was turned." */
    private static void turningOnce() {
        due("of 60", rowBehind("rrr").turn(0), 60);
        due("of 0", rowBehind("sssssssss").turn(0), 0);
        due("again", rowBehind("ts").turn(0), NONE);
        due("none", new PeatBanks().turn(0), UNKNOWN);
        PeatBanks moss = rowBehind("tssss");
        moss.stack(0);
        due("stacked and turned", moss.turn(0), NOT_POSSIBLE);
        moss = rowBehind("sssss");
        moss.stack(0);
        due("stacked", moss.turn(0), NOT_POSSIBLE);
        due("not turned by that", moss.row(0, 3), 0);
    }

    // ---- carts

    private static void carts() {
        twoCarts();
        turnsBeginAgain();
        turnsGoOnOverYears();
        eachServesOneADay();
        asManyAsTheSettingTells();
        fewerThanTheSetting();
        onlyStackedRowsOfThatCommoner();
        lowestWetnessFirst();
        ofSeveralByNumber();
        atLeastNoPeats();
        settingsInRange();
    }

    /** "There are 2 carts"; "the cart c begins with the commoner c * 5." */
    private static void twoCarts() {
        PeatBanks moss = new PeatBanks();
        due("cart 0", moss.cart(0), 0);
        due("cart 1", moss.cart(1), 5);
        due("cart -1", moss.cart(-1), UNKNOWN);
        due("cart 2", moss.cart(2), UNKNOWN);
        due("the least", moss.cart(Integer.MIN_VALUE), UNKNOWN);
        due("the greatest", moss.cart(Integer.MAX_VALUE), UNKNOWN);
    }

    /** "... the turn goes on by one behind each day (behind 9 comes 0 again) ..." */
    private static void turnsBeginAgain() {
        PeatBanks moss = new PeatBanks();
        times(moss, 4, SUN);
        due("cart 1 at 9", moss.cart(1), 9);
        moss.pass(SUN);
        due("cart 1 at 0 again", moss.cart(1), 0);
        due("cart 0 at 5", moss.cart(0), 5);
        times(moss, 4, SUN);
        due("cart 0 at 9", moss.cart(0), 9);
        moss.pass(SUN);
        due("cart 0 at 0 again", moss.cart(0), 0);
        due("cart 1 at 5 again", moss.cart(1), 5);
        write(moss, "s60r9");
        moss.passAll();
        due("cart 0 behind 69 days", moss.cart(0), 9);
        due("cart 1 behind 69 days", moss.cart(1), 4);
        moss.undo();
        due("cart 0 undone", moss.cart(0), 0);
    }

    /** "... whether it was used or not, and over the ends of years." */
    private static void turnsGoOnOverYears() {
        PeatBanks moss = mossWithRowOf(5, 10);
        times(moss, 5, SUN);
        moss.stack(0);
        due("cart 0 is used", moss.pass(SUN), 1);
        due("on by one", moss.cart(0), 6);
        due("cart 1, not used, too", moss.cart(1), 1);
        times(moss, 3, CLOUD);
        moss.endYear();
        due("over the year, 9", moss.cart(0), 9);
        due("over the year, 4", moss.cart(1), 4);
        moss.pass(RAIN);
        due("then 0", moss.cart(0), 0);
        moss.endYear();
        due("over an empty year", moss.cart(1), 5);
    }

    /** "... behind the weather, each of them serves the commoner whose turn it is." */
    private static void eachServesOneADay() {
        PeatBanks moss = new PeatBanks();
        for (int commoner = 0; commoner < 10; commoner++) {
            moss.cut(commoner, commoner * 2 + 1);
        }
        times(moss, 10, CLOUD);
        for (int row = 0; row < 10; row++) {
            moss.stack(row);
        }
        for (int day = 0; day < 5; day++) {
            due("two a day", moss.pass(RAIN), 2);
            due("home of cart 0", moss.commoner(day, 2), 20);
            due("home of cart 1", moss.commoner(day + 5, 2), 20);
            due("all so far", moss.count(6), 2 * day + 2);
        }
        due("none is left", moss.pass(RAIN), 0);
    }

    /** Seven rows of the commoner 3 with wetness 20, who is served on the fourth day that passes next. */
    private static PeatBanks sevenStackedRows() {
        PeatBanks moss = new PeatBanks();
        moss.setDays(3, 7);
        for (int row = 0; row < 7; row++) {
            moss.cut(3, 6 + row / 6);
        }
        times(moss, 10, CLOUD);
        for (int row = 0; row < 7; row++) {
            moss.stack(row);
        }
        times(moss, 3, RAIN);
        return moss;
    }

    /** "A cart takes at most as many stacked rows of that commoner home as the setting 0 tells (1 to 6; 3 at first)." */
    private static void asManyAsTheSettingTells() {
        for (int rows = 1; rows <= 6; rows++) {
            PeatBanks moss = sevenStackedRows();
            due("all are stacked", moss.commoner(3, 4), 7);
            if (rows != 3) {
                due("3 at first", moss.set(0, rows), 3);
            }
            due("rows of a cart", moss.pass(RAIN), rows);
            due("rows that are left", moss.commoner(3, 4), 7 - rows);
            due("peats at the hearth", moss.commoner(3, 2), 20 * rows);
            due("rows home so far", moss.count(6), rows);
        }
    }

    /** "... at most": where fewer are stacked, or none. */
    private static void fewerThanTheSetting() {
        PeatBanks moss = sevenStackedRows();
        moss.set(0, 6);
        due("six of seven", moss.pass(SUN), 6);
        due("no cart for four days", moss.would(4, SUN), 0);
        times(moss, 4, SUN);
        due("cart 1 is at 3", moss.cart(1), 3);
        due("one of one", moss.pass(SUN), 1);
        times(moss, 4, SUN);
        due("cart 0 is at 3", moss.cart(0), 3);
        due("none of none", moss.pass(SUN), 0);
    }

    /** "... stacked rows of that commoner": no dry one that is not stacked, and none of another. */
    private static void onlyStackedRowsOfThatCommoner() {
        PeatBanks moss = new PeatBanks();
        moss.cut(0, 0);
        moss.cut(0, 0);
        moss.cut(1, 2);
        times(moss, 10, SUN);
        moss.stack(1);
        moss.stack(2);
        due("one of three", moss.pass(SUN), 1);
        due("the dry one lies", moss.row(0, 0), 0);
        due("that of another lies", moss.row(2, 0), 1);
        due("the stacked one is home", moss.row(1, 0), UNKNOWN);
        due("then that of another", moss.pass(SUN), 1);
        due("never the dry one", moss.would(60, SUN), 0);
    }

    /** "... those with the lowest wetness first ..." */
    private static void lowestWetnessFirst() {
        PeatBanks moss = new PeatBanks();
        moss.set(0, 1);
        for (int row = 0; row < 3; row++) {
            moss.cut(0, 0);
        }
        times(moss, 5, SUN);
        moss.stack(0);
        moss.pass(SUN);
        moss.pass(SUN);
        due("wetness of 1", moss.row(1, 2), 14 - 6);
        due("one was home at once", moss.count(6), 1);
        moss.cut(0, 0);
        moss.stack(1);
        moss.pass(SUN);
        moss.stack(2);
        due("drier", moss.row(2, 2), 2);
        due("wetter", moss.row(1, 2), 8);
        times(moss, 2, CLOUD);
        due("the drier one, though the number is higher", moss.pass(RAIN), 1);
        due("row 2 is home", moss.row(2, 2), UNKNOWN);
        due("row 1 lies", moss.row(1, 2), 8);
        due("peats", moss.commoner(0, 2), 20 + 38);
    }

    /** "... of several by number." */
    private static void ofSeveralByNumber() {
        PeatBanks moss = sevenStackedRows();
        moss.set(0, 2);
        due("two", moss.pass(SUN), 2);
        due("row 0", moss.row(0, 0), UNKNOWN);
        due("row 1", moss.row(1, 0), UNKNOWN);
        due("row 2", moss.row(2, 0), 3);
        times(moss, 4, SUN);
        due("two more", moss.pass(SUN), 2);
        due("row 3", moss.row(3, 0), UNKNOWN);
        due("row 4", moss.row(4, 0), 3);
    }

    /** "At the hearth each row brings 40 peats less its wetness (at least 0)." */
    private static void atLeastNoPeats() {
        due("wetness 60", rowBehind("rrr").row(0, 6), 0);
        due("wetness 50", rowBehind("").row(0, 6), 0);
        due("wetness 41", rowBehind("ccc").row(0, 6), 0);
        due("wetness 40", rowBehind("tcc").row(0, 6), 0);
        due("wetness 39", rowBehind("tccrc").row(0, 6), 1);
        due("wetness 20", rowBehind("sssss").row(0, 6), 20);
        due("wetness 0", rowBehind("sssssssss").row(0, 6), 40);
        due("39 it is", wetnessBehind("tccrc"), 39);
        due("40 it is", wetnessBehind("tcc"), 40);
        due("41 it is", wetnessBehind("ccc"), 41);
    }

    /** set: "0 the rows of a cart (1 to 6), 1 whether there are stakes (0 or 1)." */
    private static void settingsInRange() {
        PeatBanks moss = new PeatBanks();
        due("which -1", moss.set(-1, 1), BAD_VALUE);
        due("which 2", moss.set(2, 1), BAD_VALUE);
        due("the least which", moss.set(Integer.MIN_VALUE, 1), BAD_VALUE);
        due("the greatest which", moss.set(Integer.MAX_VALUE, 1), BAD_VALUE);
        due("rows 0", moss.set(0, 0), BAD_VALUE);
        due("rows 1", moss.set(0, 1), 3);
        due("rows 1 again", moss.set(0, 1), NONE);
        due("rows 6", moss.set(0, 6), 1);
        due("rows 7", moss.set(0, 7), BAD_VALUE);
        due("stakes -1", moss.set(1, -1), BAD_VALUE);
        due("stakes 0, as it is", moss.set(1, 0), NONE);
        due("stakes 1", moss.set(1, 1), 0);
        due("stakes 1 again", moss.set(1, 1), NONE);
        due("stakes 2", moss.set(1, 2), BAD_VALUE);
        due("stakes 0", moss.set(1, 0), 1);
        due("rows of a cart", moss.count(11), 6);
        due("stakes", moss.count(12), 0);
    }

    // ---- trespass and disputes

    private static void trespassAndDisputes() {
        besideAndNoFurther();
        noDisputeByRight();
        whoHadTheRightAsItWasCut();
        openUntilItIsSettled();
        stakesAsItIsSettled();
        theRowAsLongAsItLies();
        twentyPeatsIfItIsHome();
        peatsAlwaysEnough();
        oneMoreDayIfAnyIsLeft();
        sixtyDisputes();
        disputesOverAllLayers();
    }

    /** "Somebody may cut into a plot that is beside one on which this commoner has the right to cut." */
    private static void besideAndNoFurther() {
        PeatBanks moss = new PeatBanks();
        for (int plot = 0; plot < 20; plot++) {
            due("why(4, " + plot + ")", moss.why(4, plot), plot >= 7 && plot <= 10 ? 0 : 4);
            due("why(0, " + plot + ")", moss.why(0, plot), plot <= 2 ? 0 : 4);
            due("why(9, " + plot + ")", moss.why(9, plot), plot >= 17 ? 0 : 4);
        }
        due("cut two below", moss.cut(4, 6), NOT_POSSIBLE);
        due("cut two above", moss.cut(4, 11), NOT_POSSIBLE);
        due("cut at the other end", moss.cut(0, 19), NOT_POSSIBLE);
        due("and at this one", moss.cut(9, 0), NOT_POSSIBLE);
        due("no dispute by these", moss.count(10), 0);
        due("cut beside below", moss.cut(4, 7), 0);
        due("cut beside above", moss.cut(4, 10), 1);
        int[][] disputes = {{4, 3, 0, 7}, {4, 5, 1, 10}};
        for (int rank = 0; rank < 2; rank++) {
            for (int what = 0; what < 4; what++) {
                due("dispute", moss.dispute(rank, what), disputes[rank][what]);
            }
        }
    }

    /** There is a dispute where the one who cut has no right, whoever the owner is. */
    private static void noDisputeByRight() {
        PeatBanks moss = mossWithRowOf(4, 8);
        due("at his own", moss.count(9), 0);
        moss.lend(9, 0);
        moss.cut(0, 9);
        due("the borrower", moss.count(9), 0);
        moss.cut(4, 9);
        due("the owner, from beside", moss.count(9), 1);
        due("the owner cut", moss.dispute(0, 0), 4);
        due("the borrower had the right", moss.dispute(0, 1), 0);
        due("beside what is lent", moss.cut(0, 10), 3);
        due("the borrower cut", moss.dispute(1, 0), 0);
        due("no chain: the row was cut there, the right is not", moss.cut(0, 11), NOT_POSSIBLE);
    }

    /** "... it is settled for the one who had the right as the row was cut ..." */
    private static void whoHadTheRightAsItWasCut() {
        PeatBanks moss = new PeatBanks();
        moss.lend(2, 7);
        moss.cut(0, 2);
        moss.lend(2, 1);
        moss.cut(0, 2);
        moss.handOver(2, 8);
        moss.set(1, 1);
        due("the borrower then", moss.settle(), 7);
        due("the owner then", moss.settle(), 1);
        due("row 0", moss.row(0, 0), 7);
        due("row 1", moss.row(1, 0), 1);
        due("nothing for the owner now", moss.commoner(8, 3), 0);
        times(moss, 5, SUN);
        due("its new owner has one stacked row", moss.stack(0), 1);
        due("the one who cut has none", moss.commoner(0, 4), 0);
    }

    /** "A dispute is open until it is settled." "Settles the oldest open dispute." "NONE if none is open." */
    private static void openUntilItIsSettled() {
        PeatBanks moss = new PeatBanks();
        due("none at first", moss.settle(), NONE);
        moss.cut(0, 2);
        moss.cut(9, 17);
        moss.set(1, 1);
        due("two open", moss.count(9), 2);
        due("the oldest", moss.settle(), 1);
        due("one open", moss.count(9), 1);
        due("the other is the oldest now", moss.dispute(0, 0), 9);
        due("the other", moss.settle(), 8);
        due("none open", moss.count(9), 0);
        due("none", moss.settle(), NONE);
        due("two so far", moss.count(10), 2);
        moss.undo();
        due("open again", moss.count(9), 1);
        due("the row is given back", moss.row(1, 0), 9);
    }

    /** "... the setting 1 is 1 as it is settled; 0 at first." */
    private static void stakesAsItIsSettled() {
        PeatBanks moss = new PeatBanks();
        for (int row = 0; row < 4; row++) {
            moss.cut(0, 2);
        }
        due("0 at first", moss.settle(), 10);
        moss.set(1, 1);
        due("with stakes set behind the cut", moss.settle(), 1);
        moss.set(1, 0);
        due("with stakes taken away", moss.settle(), 10);
        moss.set(1, 1);
        due("with stakes again", moss.settle(), 1);
        due("row 0 stays", moss.row(0, 0), 0);
        due("row 1 is given", moss.row(1, 0), 1);
        due("row 2 stays", moss.row(2, 0), 0);
        due("row 3 is given", moss.row(3, 0), 1);
    }

    /** "... this one gets the row, as long as it lies": wet, dry or stacked, and as it is. */
    private static void theRowAsLongAsItLies() {
        PeatBanks moss = new PeatBanks();
        moss.cut(2, 6);
        moss.cut(2, 6);
        moss.turn(0);
        times(moss, 5, SUN);
        moss.stack(0);
        moss.stack(1);
        moss.cut(2, 6);
        moss.set(1, 1);
        due("stacked", moss.settle(), 3);
        due("it is of 3", moss.row(0, 0), 3);
        due("as wet", moss.row(0, 2), 10);
        due("turned", moss.row(0, 3), 1);
        due("stacked still", moss.commoner(3, 4), 1);
        due("one is left to 2", moss.commoner(2, 4), 1);
        due("no day is used by that", moss.commoner(2, 1), 3);
        due("no peats", moss.count(7), 0);
        due("stacked, the second", moss.settle(), 3);
        due("wet, the third", moss.settle(), 3);
        due("the first rank of 3", moss.driest(3, 0), 0);
        due("the last rank of 3", moss.driest(3, 2), 2);
        due("none of 2", moss.driest(2, 0), NONE);
        due("the carts take them to 3", moss.would(10, RAIN), 2);
        times(moss, 10, RAIN);
        due("peats of 3", moss.commoner(3, 2), 50);
        due("peats of 2", moss.commoner(2, 2), 0);
    }

    /** "... if it is home already, 20 peats from the hearth of the one who cut ..." */
    private static void twentyPeatsIfItIsHome() {
        PeatBanks moss = new PeatBanks();
        moss.cut(1, 4);
        times(moss, 10, SUN);
        moss.stack(0);
        moss.pass(SUN);
        due("one day before it is home", moss.commoner(1, 2), 0);
        due("home", moss.pass(SUN), 1);
        due("40 peats", moss.commoner(1, 2), 40);
        moss.set(1, 1);
        due("settle", moss.settle(), 2);
        due("20 are left", moss.commoner(1, 2), 20);
        due("20 are given", moss.commoner(2, 2), 20);
        due("as many as before", moss.count(7), 40);
        due("the row is of nobody", moss.row(0, 0), UNKNOWN);
        due("home so far", moss.count(6), 1);
        moss.undo();
        due("undone", moss.commoner(1, 2), 40);
    }

    /** "... or as many as there are": a row at home brought 20 at least, so that the least that is left is 0. */
    private static void peatsAlwaysEnough() {
        PeatBanks moss = new PeatBanks();
        for (int row = 0; row < 3; row++) {
            moss.cut(1, 4);
        }
        times(moss, 5, SUN);
        for (int row = 0; row < 3; row++) {
            moss.stack(row);
        }
        times(moss, 2, RAIN);
        due("three at home", moss.commoner(1, 2), 60);
        moss.set(1, 1);
        for (int left = 40; left >= 0; left -= 20) {
            due("settle", moss.settle(), 2);
            due("what is left", moss.commoner(1, 2), left);
            due("what is given", moss.commoner(2, 2), 60 - left);
        }
    }

    /** "Without stakes ... nothing is given, but the one who cut uses one more cutting day, if any is left." */
    private static void oneMoreDayIfAnyIsLeft() {
        PeatBanks moss = new PeatBanks();
        for (int row = 0; row < 4; row++) {
            moss.cut(0, 2);
        }
        moss.setDays(0, 5);
        due("one is left", moss.settle(), 10);
        due("it is used", moss.commoner(0, 1), 5);
        due("none is left", moss.why(0, 0), 1);
        due("none is left to use", moss.settle(), 10);
        due("not one more", moss.commoner(0, 1), 5);
        moss.setDays(0, 4);
        due("fewer than used", moss.settle(), 10);
        due("not one more then", moss.commoner(0, 1), 5);
        moss.setDays(0, 20);
        due("some are left", moss.settle(), 10);
        due("one more", moss.commoner(0, 1), 6);
        due("no day of the other", moss.commoner(1, 1), 0);
        due("all rows stay", moss.commoner(0, 3), 4);
        due("no peats", moss.count(7), 0);
    }

    /** A moss where 60 rows lie, each of them in dispute. */
    private static void sixtyDisputes() {
        PeatBanks moss = new PeatBanks();
        for (int row = 0; row < 60; row++) {
            moss.cut(row / 6, row / 6 < 9 ? row / 6 * 2 + 2 : 17);
        }
        due("60 open", moss.count(9), 60);
        due("rank 0", moss.dispute(0, 2), 0);
        due("rank 59", moss.dispute(59, 2), 59);
        due("rank 59, who cut", moss.dispute(59, 0), 9);
        due("rank 59, who had the right", moss.dispute(59, 1), 8);
        due("rank 59, the plot", moss.dispute(59, 3), 17);
        due("rank 60", moss.dispute(60, 2), NONE);
        due("one end", moss.commoner(0, 7), 6);
        due("between", moss.commoner(8, 7), 18);
        due("the other end", moss.commoner(9, 7), 12);
        moss.set(1, 1);
        for (int row = 0; row < 60; row++) {
            due("settle", moss.settle(), row / 6 < 9 ? row / 6 + 1 : 8);
        }
        due("none is left", moss.settle(), NONE);
        due("rows of 8", moss.commoner(8, 3), 12);
        due("rows of 0", moss.commoner(0, 3), 0);
    }

    /** 120 disputes are open: each layer is cut from beside, and the rows come home before the disputes are settled. */
    private static void disputesOverAllLayers() {
        PeatBanks moss = new PeatBanks();
        moss.set(0, 6);
        for (int commoner = 0; commoner < 10; commoner++) {
            moss.setDays(commoner, 12);
        }
        for (int row = 0; row < 60; row++) {
            moss.cut(row / 6, row / 6 < 9 ? row / 6 * 2 + 2 : 17);
        }
        times(moss, 5, SUN);
        for (int row = 0; row < 60; row++) {
            moss.stack(row);
        }
        times(moss, 5, SUN);
        due("all are home", moss.count(6), 60);
        due("all are open", moss.count(9), 60);
        moss.lend(0, 5);
        moss.lend(19, 5);
        for (int row = 60; row < 108; row++) {
            int commoner = (row - 60) / 6 + 1;
            due("cut below", moss.cut(commoner, commoner * 2 - 1), row);
        }
        for (int row = 108; row < 120; row += 2) {
            due("cut at the beginning", moss.cut(0, 0), row);
            due("cut at the end", moss.cut(9, 19), row + 1);
        }
        due("all layers", moss.count(8), 0);
        due("120 open", moss.count(9), 120);
        due("rank 119", moss.dispute(119, 2), 119);
        due("rank 119, with the borrower", moss.dispute(119, 1), 5);
        due("rank 120", moss.dispute(120, 2), NONE);
        due("of 5 on either side", moss.commoner(5, 7), 36);
        due("settle", moss.settle(), 10);
        due("rank 118", moss.dispute(118, 2), 119);
        due("rank 119 then", moss.dispute(119, 2), NONE);
        due("so far", moss.count(10), 120);
    }

    // ---- the year

    private static void theYear() {
        daysOfAYear();
        endOfAnEmptyYear();
        endOfAFullYear();
        whatStaysOverAYear();
        disputesAreDropped();
        reasonsInTheirOrder();
    }

    /** "The days of a year are counted (0 at first)." */
    private static void daysOfAYear() {
        PeatBanks moss = mossWithText("s60c");
        due("0 at first", moss.count(0), 0);
        moss.pass(RAIN);
        due("1", moss.count(0), 1);
        moss.passAll();
        due("62", moss.count(0), 62);
        moss.pass(3);
        moss.would(60, 0);
        due("still 62", moss.count(0), 62);
        moss.endYear();
        due("0 again", moss.count(0), 0);
        due("one year", moss.count(1), 1);
        moss.pass(SUN);
        due("1 again", moss.count(0), 1);
        moss.undo();
        moss.undo();
        due("62 again", moss.count(0), 62);
        due("no year", moss.count(1), 0);
    }

    /** "Returns how many rows are gone by that": none in a moss where no row lies. */
    private static void endOfAnEmptyYear() {
        PeatBanks moss = new PeatBanks();
        due("none is gone", moss.endYear(), 0);
        due("an act all the same", moss.count(13), 1);
        due("none is gone again", moss.endYear(), 0);
        due("two years", moss.count(1), 2);
        due("undone", moss.undo(), 1);
        due("one year", moss.count(1), 1);
    }

    /** "... all rows that are not home are gone ..." */
    private static void endOfAFullYear() {
        due("60 are gone", sixtyRows().endYear(), 60);
        PeatBanks moss = sixtyStackedRows();
        due("some are home", moss.pass(SUN), 6);
        due("54 are gone, though stacked", moss.endYear(), 54);
        due("none lies", moss.count(2) + moss.count(4) + moss.count(5), 0);
        due("none of 0", moss.commoner(0, 3), 0);
        due("home so far", moss.count(6), 6);
        due("nothing comes home", moss.would(60, SUN), 0);
        due("no more peats", moss.count(7), 120);
        due("no stack of a row that is gone", moss.stack(59), UNKNOWN);
        moss.undo();
        due("undone, they lie", moss.count(4), 54);
    }

    /** "... cutting days used are 0 ...; plots stay as they are cut." */
    private static void whatStaysOverAYear() {
        PeatBanks moss = sixtyRows();
        moss.setDays(0, 3);
        moss.handOver(1, 5);
        moss.set(0, 5);
        moss.set(1, 1);
        moss.endYear();
        for (int commoner = 0; commoner < 10; commoner++) {
            due("no day is used", moss.commoner(commoner, 1), 0);
            due("days stay", moss.commoner(commoner, 0), commoner == 0 ? 3 : 6);
        }
        due("cut plots stay cut", moss.plot(0, 0) + moss.plot(18, 0), 0);
        due("the others stay", moss.plot(1, 0) + moss.plot(19, 0), 12);
        due("owners stay", moss.plot(1, 1), 5);
        due("settings stay", moss.count(11) * 10 + moss.count(12), 51);
        due("rows so far stay", moss.count(3), 60);
        due("no cut where no layer is", moss.why(9, 18), 2);
        due("days again", moss.why(9, 19), 0);
    }

    /** "... and open disputes are dropped." */
    private static void disputesAreDropped() {
        PeatBanks moss = new PeatBanks();
        moss.cut(0, 2);
        moss.cut(0, 2);
        moss.settle();
        moss.endYear();
        due("none is open", moss.count(9), 0);
        due("none of 0", moss.commoner(0, 7), 0);
        due("none to tell", moss.dispute(0, 0), NONE);
        due("none to settle", moss.settle(), NONE);
        due("two so far", moss.count(10), 2);
        moss.cut(9, 17);
        due("a new one is the first", moss.dispute(0, 0), 9);
        due("three so far", moss.count(10), 3);
        moss.undo();
        moss.undo();
        due("undone, one is open", moss.dispute(0, 2), 1);
    }

    /** "The reasons ... are asked in this order: 1 ...; 2 ...; 3 ...; 4 ...; 0 it is possible." */
    private static void reasonsInTheirOrder() {
        PeatBanks moss = sixtyRows();
        due("1 before 2, 3 and 4", moss.why(0, 18), 1);
        due("1 before 2 and 3", moss.why(0, 0), 1);
        due("1 before 3 and 4", moss.why(0, 19), 1);
        due("1 before 3", moss.why(0, 1), 1);
        moss.setDays(0, 7);
        due("2 before 3 and 4", moss.why(0, 18), 2);
        due("2 before 3", moss.why(0, 0), 2);
        due("3 before 4", moss.why(0, 19), 3);
        due("3 alone", moss.why(0, 1), 3);
        moss.undo();
        moss.undo();
        due("one row less", moss.count(2), 59);
        due("1 before 2 and 4", moss.why(0, 16), 1);
        due("1 before 4", moss.why(0, 19), 1);
        due("1 before 2", moss.why(0, 0), 1);
        due("1 alone", moss.why(0, 1), 1);
        moss.setDays(0, 7);
        due("2 before 4", moss.why(0, 16), 2);
        due("2 alone", moss.why(0, 0), 2);
        due("4 alone", moss.why(0, 3), 4);
        due("4 far away", moss.why(0, 19), 4);
        due("0", moss.why(0, 1), 0);
        int[] refused = {16, 0, 3, 19};
        for (int plot : refused) {
            due("cut(0, " + plot + ")", moss.cut(0, plot), NOT_POSSIBLE);
        }
        due("cut(0, 1)", moss.cut(0, 1), 59);
    }

    // ---- texts

    private static void texts() {
        atMostSixtyCharacters();
        emptyText();
        oneOrMoreGroups();
        numbersFromTwoToSixty();
        noZeroInFront();
        noOneAlone();
        firstCharacterThatIsNotAllowed();
        endsTooEarly();
        theTextStays();
    }

    private static void answer(String text, int want) {
        due("passAll of '" + text + "'", mossWithText(text).passAll(), want);
    }

    /** "There is a text of at most 60 characters"; type: "Returns the length of the text then; FULL if it has 60." */
    private static void atMostSixtyCharacters() {
        PeatBanks moss = new PeatBanks();
        for (int length = 1; length <= 59; length++) {
            due("length", moss.type('s'), length);
        }
        due("the 60th", moss.type('c'), 60);
        due("no 61st", moss.type('r'), FULL);
        due("nor an empty one", moss.type((char) 0), FULL);
        due("length stays", moss.count(14), 60);
        due("60 days of 60 characters", moss.passAll(), 60);
        due("cleared", moss.clearText(), 60);
        due("room again", moss.type('s'), 1);
        due("one day", moss.passAll(), 1);
    }

    /** "... empty at first"; clearText: "Returns the length that it had." */
    private static void emptyText() {
        PeatBanks moss = new PeatBanks();
        due("length", moss.count(14), 0);
        due("too early at 0", moss.passAll(), -100);
        due("cleared", moss.clearText(), 0);
        moss.type('s');
        due("cleared of one", moss.clearText(), 1);
        due("empty again", moss.passAll(), -100);
        due("cleared again", moss.clearText(), 0);
    }

    /** "A text of days is one or more groups ...: "s", "c" or "r" ..., and perhaps a number." */
    private static void oneOrMoreGroups() {
        answer("s", 1);
        answer("c", 1);
        answer("r", 1);
        answer("ss", 2);
        answer("s2s", 3);
        answer("ss2", 3);
        answer("s60c60r60", 180);
        answer("s60s60s60s60s60s60s60s60s60s60s60s60s60s60s60s60s60s60s60s60", 1200);
        answer("rcrcrcrcrcrcrcrcrcrcrcrcrcrcrcrcrcrcrcrcrcrcrcrcrcrcrcrcrcrc", 60);
        PeatBanks moss = mossWithText("s3c2r4");
        moss.cut(0, 0);
        due("nine days", moss.passAll(), 9);
        due("each of its weather", moss.row(0, 2), 50 - 18 - 6 + 16);
        moss = mossWithText("r3s");
        moss.cut(0, 0);
        moss.passAll();
        due("in their order", moss.row(0, 2), 60 - 6);
    }

    /** "... a number (2 to 60) ...; a digit by which it would be above 60 is not allowed." */
    private static void numbersFromTwoToSixty() {
        for (int number = 2; number <= 60; number++) {
            answer("c" + number, number);
            answer("c" + number + "s", number + 1);
        }
        for (int number = 61; number <= 99; number++) {
            answer("c" + number, -102);
        }
        for (int number = 100; number <= 609; number += 7) {
            answer("c" + number, number / 10 <= 60 ? -103 : -102);
        }
        answer("s600", -103);
        answer("s601", -103);
        answer("s100", -103);
        answer("s99999999999", -102);
        answer("s60000000000", -103);
    }

    /** "... it has no zero in front ..." */
    private static void noZeroInFront() {
        answer("s0", -101);
        answer("s02", -101);
        answer("s00", -101);
        answer("s10", 10);
        answer("s20", 20);
        answer("s2c0", -103);
        answer("s2c06", -103);
    }

    /** "... where it is 1, the character behind it is not allowed unless it is a digit ..." */
    private static void noOneAlone() {
        char[] characters = {'s', 'c', 'r', '/', ':', 'x', ' ', (char) 0, (char) 65535};
        for (char character : characters) {
            answer("s1" + character, -102);
            answer("c2s1" + character + "2", -104);
        }
        for (int digit = 0; digit <= 9; digit++) {
            answer("s1" + digit, 10 + digit);
            answer("s1" + digit + "r", 11 + digit);
        }
        answer("s21", 21);
        answer("s21c", 22);
        answer("s11c", 12);
        answer("s11c1", -105);
    }

    /** "The fault of the text is the index, from 0, of the first character that is not allowed at its place ..." */
    private static void firstCharacterThatIsNotAllowed() {
        for (int character = 0; character < 400; character++) {
            boolean letter = character == 's' || character == 'c' || character == 'r';
            boolean digit = character >= '2' && character <= '9';
            answer("" + (char) character, letter ? 1 : -100);
            answer("s" + (char) character, letter ? 2 : digit ? character - '0' : character == '1' ? -102 : -101);
        }
        answer("xx", -100);
        answer("sxx", -101);
        answer("s2 c", -102);
        answer("2s", -100);
        answer("S", -100);
        answer("sC", -101);
        answer("s2c3r4x", -106);
        answer("s" + (char) 1634, -101);
        answer("ssssssssssssssssssssssssssssssssssssssssssssssssssssssssssss", 60);
        answer("sssssssssssssssssssssssssssssssssssssssssssssssssssssssssssx", -159);
        answer("sssssssssssssssssssssssssssssssssssssssssssssssssssssssssss0", -159);
        answer("ssssssssssssssssssssssssssssssssssssssssssssssssssssssssss61", -159);
        answer("xsssssssssssssssssssssssssssssssssssssssssssssssssssssssssss", -100);
    }

    /** "... or the length of the text if it ends too early (the empty text does)." */
    private static void endsTooEarly() {
        answer("", -100);
        answer("s1", -102);
        answer("s60r1", -105);
        answer("sssssssssssssssssssssssssssssssssssssssssssssssssssssssssss1", -160);
        answer("ssssssssssssssssssssssssssssssssssssssssssssssssssssssssss10", 67);
    }

    /** passAll: "Lets the days of the text, which stays, pass. This is one act." */
    private static void theTextStays() {
        PeatBanks moss = mossWithText("s2c");
        due("three days", moss.passAll(), 3);
        due("it stays", moss.count(14), 3);
        due("three more", moss.passAll(), 3);
        due("two acts", moss.count(13), 2);
        moss.type('1');
        due("a fault", moss.passAll(), -104);
        due("it stays, too", moss.count(14), 4);
        moss.type('0');
        due("no fault", moss.passAll(), 12);
        due("all days", moss.count(0), 18);
        due("undone at once", moss.undo(), 2);
        due("six days", moss.count(0), 6);
        due("the text stays with undo", moss.count(14), 5);
        due("and is as it was", moss.passAll(), 12);
    }

    // ---- history

    private static void history() {
        atMostFourStates();
        anEmptyHistory();
        onlyActsThatDoSomething();
        eachActIsOneState();
        theSnapshot();
        aStateIsNotTheText();
        aStateIsAllElse();
        restoreWithAFullHistory();
        keepAndRestoreOfSixtyRows();
    }

    /** "A history of at most 4 states is kept; when one more is recorded, the oldest one is dropped." */
    private static void atMostFourStates() {
        for (int acts = 1; acts <= 9; acts++) {
            PeatBanks moss = new PeatBanks();
            for (int act = 0; act < acts; act++) {
                moss.setDays(0, 7 + act);
                due("states", moss.count(13), Math.min(4, act + 1));
            }
            int states = Math.min(4, acts);
            for (int undone = 1; undone <= states; undone++) {
                due("states that are left", moss.undo(), states - undone);
                due("the state", moss.commoner(0, 0), 6 + acts - undone);
            }
            due("no more", moss.undo(), NONE);
            due("the oldest that was kept", moss.commoner(0, 0), 6 + acts - states);
        }
    }

    /** undo: "Returns the number of states that are left; NONE if the history is empty." */
    private static void anEmptyHistory() {
        PeatBanks moss = new PeatBanks();
        due("empty", moss.undo(), NONE);
        moss.setDays(0, 7);
        due("none is left", moss.undo(), 0);
        due("empty again", moss.undo(), NONE);
        due("as at first", moss.commoner(0, 0), 6);
        moss.setDays(0, 8);
        due("one state", moss.count(13), 1);
        due("undo is no act", moss.undo(), 0);
        due("six again", moss.commoner(0, 0), 6);
    }

    /** "Each call of a method that is described as an act, and returns no error and not NONE, records the state." */
    private static void onlyActsThatDoSomething() {
        PeatBanks moss = mossWithRowOf(4, 8);
        moss.keep();
        moss.type('s');
        moss.type('1');
        moss.lend(0, 0);
        moss.lend(20, 0);
        moss.handOver(0, 0);
        moss.handOver(0, 10);
        moss.setDays(0, 6);
        moss.setDays(0, 21);
        moss.set(0, 3);
        moss.set(0, 7);
        moss.cut(0, 19);
        moss.cut(0, 20);
        moss.turn(1);
        moss.stack(0);
        moss.stack(1);
        moss.pass(3);
        moss.passAll();
        moss.settle();
        moss.clearText();
        moss.commoner(0, 0);
        moss.plot(0, 0);
        moss.row(0, 0);
        moss.driest(0, 0);
        moss.why(0, 0);
        moss.dispute(0, 0);
        moss.cart(0);
        moss.would(60, 0);
        due("the state of the cut alone", moss.count(13), 1);
        moss.turn(0);
        moss.turn(0);
        due("the state of the turn", moss.count(13), 2);
    }

    /** Each of the acts records one state, and undo restores it. */
    private static void eachActIsOneState() {
        PeatBanks moss = mossWithText("s5");
        due("set", moss.set(1, 1), 0);
        due("lend", moss.lend(2, 3), 1);
        due("handOver", moss.handOver(0, 4), 0);
        due("three", moss.count(13), 3);
        due("owner", moss.plot(0, 1), 4);
        moss.undo();
        due("owner again", moss.plot(0, 1), 0);
        moss.undo();
        due("right again", moss.plot(2, 2), 1);
        moss.undo();
        due("stakes again", moss.count(12), 0);
        moss.cut(0, 2);
        due("cut", moss.count(13), 1);
        moss.turn(0);
        due("turn", moss.count(13), 2);
        moss.passAll();
        due("passAll", moss.count(13), 3);
        moss.stack(0);
        due("stack", moss.count(13), 4);
        moss.undo();
        due("not stacked", moss.row(0, 4), 0);
        moss.undo();
        due("as wet", moss.row(0, 2), 50);
        due("carts as before", moss.cart(0), 0);
        moss.undo();
        due("not turned", moss.row(0, 3), 0);
        moss.settle();
        due("settle", moss.count(13), 2);
        moss.undo();
        due("open again", moss.count(9), 1);
        due("day as before", moss.commoner(0, 1), 1);
        moss.pass(0);
        due("pass", moss.count(13), 2);
        moss.endYear();
        due("endYear", moss.count(13), 3);
        moss.undo();
        due("row lies again", moss.row(0, 2), 44);
        due("one day", moss.count(0), 1);
        moss.undo();
        moss.undo();
        due("no row", moss.count(2) + moss.count(3), 0);
        due("the layer", moss.plot(2, 0), 6);
    }

    /** "There is one snapshot, empty at first." "Takes a snapshot of the state, in place of the one that was." */
    private static void theSnapshot() {
        PeatBanks moss = new PeatBanks();
        due("empty at first", moss.restore(), NONE);
        due("of an empty moss", moss.keep(), 0);
        moss.cut(0, 0);
        due("none lies then", moss.restore(), 0);
        due("an act", moss.count(13), 2);
        due("undone, one lies", moss.undo(), 1);
        due("one lies", moss.count(2), 1);
        due("in place of the first", moss.keep(), 1);
        moss.cut(0, 0);
        due("one lies in the second", moss.restore(), 1);
        moss.undo();
        due("two lie", moss.count(2), 2);
        due("it stays behind undo", moss.restore(), 1);
        due("it stays behind restore", moss.restore(), 1);
        moss.endYear();
        due("and behind the year", moss.restore(), 1);
        due("no year in it", moss.count(1), 0);
    }

    /** "A state is everything but the text, the history and the snapshot." */
    private static void aStateIsNotTheText() {
        PeatBanks moss = mossWithText("s2");
        moss.cut(0, 0);
        moss.turn(0);
        moss.keep();
        moss.undo();
        moss.type('c');
        moss.endYear();
        due("restore", moss.restore(), 1);
        due("the text is not the snapshot's", moss.count(14), 3);
        due("the history is not the snapshot's", moss.count(13), 3);
        due("the row is", moss.row(0, 3), 1);
        moss.undo();
        moss.clearText();
        due("undone", moss.undo(), 1);
        due("the text is not the state's", moss.count(14), 0);
        due("the snapshot is not the state's", moss.restore(), 1);
        due("turned as it was kept", moss.row(0, 3), 1);
        due("numbers go on from the state's", moss.cut(0, 0), 1);
    }

    /** "A state is everything but ...": the same numbers of rows and disputes mean others in another state. */
    private static void aStateIsAllElse() {
        PeatBanks moss = new PeatBanks();
        moss.cut(0, 0);
        moss.cut(0, 2);
        moss.turn(1);
        moss.pass(SUN);
        moss.keep();
        for (int state = 0; state < 4; state++) {
            moss.undo();
        }
        moss.cut(9, 17);
        moss.cut(9, 19);
        moss.setDays(3, 1);
        due("the other way", moss.dispute(0, 2), 0);
        due("restore", moss.restore(), 2);
        int[] dispute = {0, 1, 1, 2};
        int[][] rows = {{0, 0, 44, 0, 0, 0, 0}, {0, 2, 42, 1, 0, 0, 0}};
        for (int what = 0; what < 4; what++) {
            due("dispute " + what, moss.dispute(0, what), dispute[what]);
        }
        for (int what = 0; what < 7; what++) {
            due("row 0, " + what, moss.row(0, what), rows[0][what]);
            due("row 1, " + what, moss.row(1, what), rows[1][what]);
        }
        due("days", moss.commoner(3, 0), 6);
        due("carts", moss.cart(0) * 10 + moss.cart(1), 16);
        due("layers", moss.plot(17, 0) * 10 + moss.plot(2, 0), 65);
        moss.undo();
        int[] other = {9, 8, 0, 17};
        int[][] otherRows = {{9, 17, 50, 0, 0, 0, 0}, {9, 19, 50, 0, 0, 0, 0}};
        for (int what = 0; what < 4; what++) {
            due("other dispute " + what, moss.dispute(0, what), other[what]);
        }
        for (int what = 0; what < 7; what++) {
            due("other row 0, " + what, moss.row(0, what), otherRows[0][what]);
            due("other row 1, " + what, moss.row(1, what), otherRows[1][what]);
        }
        due("other days", moss.commoner(3, 0), 1);
        due("other carts", moss.cart(0) * 10 + moss.cart(1), 5);
        due("other layers", moss.plot(17, 0) * 10 + moss.plot(2, 0), 56);
    }

    /** restore is an act, also where the history is full. */
    private static void restoreWithAFullHistory() {
        PeatBanks moss = new PeatBanks();
        moss.keep();
        for (int days = 7; days <= 10; days++) {
            moss.setDays(0, days);
        }
        due("full", moss.count(13), 4);
        due("restore", moss.restore(), 0);
        due("full still", moss.count(13), 4);
        due("as kept", moss.commoner(0, 0), 6);
        for (int days = 10; days >= 7; days--) {
            due("undo", moss.undo(), days - 7);
            due("days", moss.commoner(0, 0), days);
        }
        due("the oldest was dropped", moss.undo(), NONE);
    }

    /** keep and restore: "Returns how many rows lie." In a moss where 60 lie, and those that are home do not. */
    private static void keepAndRestoreOfSixtyRows() {
        PeatBanks moss = sixtyStackedRows();
        due("60 are kept", moss.keep(), 60);
        due("six come home", moss.pass(RAIN), 6);
        due("undone, 60 lie", moss.undo() + moss.keep(), 63);
        due("none is home", moss.count(6) + moss.count(7), 0);
        moss.pass(RAIN);
        due("54 are kept", moss.keep(), 54);
        moss.endYear();
        due("54 lie again", moss.restore(), 54);
        due("the row 0 is home", moss.row(0, 0), UNKNOWN);
        due("the row 59 lies", moss.row(59, 4), 1);
        due("home so far", moss.count(6), 6);
        moss.undo();
        due("no row lies", moss.keep(), 0);
    }

    // ---- what is told

    private static void whatIsTold() {
        numbersOfACommoner();
        numbersOfAPlot();
        numbersOfARow();
        ranksOfRows();
        ranksOfDisputes();
        wouldOfDays();
        wouldOfSixtyRows();
        numbersOfTheMoss();
    }

    /** commoner: what is 0 to 7. */
    private static void numbersOfACommoner() {
        PeatBanks moss = sixtyStackedRows();
        moss.pass(SUN);
        int[] first = {6, 6, 60, 3, 3, 2, 2, 0};
        int[] last = {6, 6, 0, 6, 6, 2, 2, 0};
        for (int what = 0; what <= 7; what++) {
            due("commoner(0, " + what + ")", moss.commoner(0, what), first[what]);
            due("commoner(9, " + what + ")", moss.commoner(9, what), last[what]);
        }
        due("what -1", moss.commoner(0, -1), BAD_VALUE);
        due("what 8", moss.commoner(9, 8), BAD_VALUE);
        due("the least what", moss.commoner(0, Integer.MIN_VALUE), BAD_VALUE);
        due("the greatest what", moss.commoner(0, Integer.MAX_VALUE), BAD_VALUE);
        due("commoner before what", moss.commoner(10, 8), UNKNOWN);
        due("commoner before what, below", moss.commoner(-1, -1), UNKNOWN);
    }

    /** plot: what is 0 to 3. */
    private static void numbersOfAPlot() {
        PeatBanks moss = mossWithRowOf(9, 19);
        moss.lend(19, 0);
        int[] last = {5, 9, 0, 1};
        for (int what = 0; what <= 3; what++) {
            due("plot(19, " + what + ")", moss.plot(19, what), last[what]);
        }
        due("what -1", moss.plot(0, -1), BAD_VALUE);
        due("what 4", moss.plot(19, 4), BAD_VALUE);
        due("the least what", moss.plot(0, Integer.MIN_VALUE), BAD_VALUE);
        due("the greatest what", moss.plot(0, Integer.MAX_VALUE), BAD_VALUE);
        due("plot before what", moss.plot(20, 4), UNKNOWN);
        due("plot before what, below", moss.plot(-1, -1), UNKNOWN);
    }

    /** row: what is 0 to 6; "a row that lies". */
    private static void numbersOfARow() {
        PeatBanks moss = rowBehind("tssss");
        int[] dry = {4, 8, 18, 1, 0, 1, 22};
        for (int what = 0; what <= 6; what++) {
            due("row(0, " + what + ")", moss.row(0, what), dry[what]);
        }
        due("what -1", moss.row(0, -1), BAD_VALUE);
        due("what 7", moss.row(0, 7), BAD_VALUE);
        due("the least what", moss.row(0, Integer.MIN_VALUE), BAD_VALUE);
        due("the greatest what", moss.row(0, Integer.MAX_VALUE), BAD_VALUE);
        due("row -1", moss.row(-1, 0), UNKNOWN);
        due("row 1", moss.row(1, 0), UNKNOWN);
        due("row before what", moss.row(1, 7), UNKNOWN);
        due("the least row", moss.row(Integer.MIN_VALUE, 0), UNKNOWN);
        due("the greatest row", moss.row(Integer.MAX_VALUE, 0), UNKNOWN);
        moss.stack(0);
        due("stacked", moss.row(0, 4), 1);
        due("home", moss.pass(SUN), 1);
        for (int what = -1; what <= 7; what++) {
            due("row(0, " + what + ") at home", moss.row(0, what), UNKNOWN);
        }
    }

    /** driest: "a rank, from 0"; "by wetness, the driest first, of several by number"; "NONE if there are not so many". */
    private static void ranksOfRows() {
        PeatBanks moss = new PeatBanks();
        due("no row", moss.driest(0, 0), NONE);
        due("no row, rank -1", moss.driest(0, -1), BAD_VALUE);
        due("nobody, rank -1", moss.driest(10, -1), UNKNOWN);
        moss.setDays(5, 20);
        moss.set(1, 1);
        for (int plot = 0; plot < 20; plot += 2) {
            moss.lend(plot, 5);
        }
        for (int row = 0; row < 20; row++) {
            moss.cut(5, row / 6 * 2 + 4);
        }
        int[] cutters = {9, 8, 7, 6, 0, 1, 4};
        int[] plots = {18, 16, 14, 12, 0, 2, 10};
        for (int row = 0; row < 40; row++) {
            moss.cut(cutters[row / 6], plots[row / 6]);
        }
        due("60 rows lie", moss.count(2), 60);
        for (int dispute = 0; dispute < 40; dispute++) {
            due("settled for 5", moss.settle(), 5);
        }
        due("all of one", moss.commoner(5, 3), 60);
        due("rank 0", moss.driest(5, 0), 0);
        due("rank 59", moss.driest(5, 59), 59);
        due("rank 60", moss.driest(5, 60), NONE);
        moss.turn(59);
        moss.turn(30);
        moss.pass(SUN);
        int[] order = {30, 59, 0, 1};
        for (int rank = 0; rank < order.length; rank++) {
            due("rank " + rank, moss.driest(5, rank), order[rank]);
        }
        due("rank 31", moss.driest(5, 31), 29);
        due("rank 32", moss.driest(5, 32), 31);
        due("rank 59 then", moss.driest(5, 59), 58);
        due("rank 60 then", moss.driest(5, 60), NONE);
        due("the greatest rank", moss.driest(5, Integer.MAX_VALUE), NONE);
        due("the least rank", moss.driest(5, Integer.MIN_VALUE), BAD_VALUE);
        due("rank -1", moss.driest(5, -1), BAD_VALUE);
        due("none of another", moss.driest(6, 0), NONE);
    }

    /** dispute: "BAD_VALUE (rank is negative, or what); NONE if there are not so many." */
    private static void ranksOfDisputes() {
        PeatBanks moss = new PeatBanks();
        due("none", moss.dispute(0, 0), NONE);
        due("none, what 3", moss.dispute(0, 3), NONE);
        due("none, what 4", moss.dispute(0, 4), BAD_VALUE);
        due("none, what -1", moss.dispute(0, -1), BAD_VALUE);
        due("none, rank -1", moss.dispute(-1, 0), BAD_VALUE);
        moss.cut(9, 17);
        int[] told = {9, 8, 0, 17};
        for (int what = 0; what <= 3; what++) {
            due("dispute(0, " + what + ")", moss.dispute(0, what), told[what]);
            due("dispute(1, " + what + ")", moss.dispute(1, what), NONE);
        }
        due("what 4", moss.dispute(0, 4), BAD_VALUE);
        due("what -1", moss.dispute(0, -1), BAD_VALUE);
        due("what before NONE", moss.dispute(1, 4), BAD_VALUE);
        due("the greatest rank", moss.dispute(Integer.MAX_VALUE, 0), NONE);
        due("the least rank", moss.dispute(Integer.MIN_VALUE, 0), BAD_VALUE);
        due("the least what", moss.dispute(0, Integer.MIN_VALUE), BAD_VALUE);
        due("the greatest what", moss.dispute(0, Integer.MAX_VALUE), BAD_VALUE);
        moss.settle();
        due("none again", moss.dispute(0, 0), NONE);
    }

    /** would: "days: 1 to 60; weather: 0 to 2"; "and nothing else was done". */
    private static void wouldOfDays() {
        PeatBanks moss = new PeatBanks();
        due("no days", moss.would(0, SUN), BAD_VALUE);
        due("one day", moss.would(1, SUN), 0);
        due("60 days", moss.would(60, RAIN), 0);
        due("61 days", moss.would(61, SUN), BAD_VALUE);
        due("weather -1", moss.would(1, -1), BAD_VALUE);
        due("weather 3", moss.would(1, 3), BAD_VALUE);
        due("the least days", moss.would(Integer.MIN_VALUE, SUN), BAD_VALUE);
        due("the greatest days", moss.would(Integer.MAX_VALUE, SUN), BAD_VALUE);
        due("the least weather", moss.would(1, Integer.MIN_VALUE), BAD_VALUE);
        due("the greatest weather", moss.would(1, Integer.MAX_VALUE), BAD_VALUE);
        moss = rowBehind("sssss");
        due("a dry row that is not stacked", moss.would(60, SUN), 0);
        moss.stack(0);
        for (int weather = SUN; weather <= RAIN; weather++) {
            due("the fourth day", moss.would(4, weather), 0);
            due("the fifth day", moss.would(5, weather), 1);
        }
        due("no day has passed", moss.count(0), 5);
        due("the row lies", moss.row(0, 4), 1);
        due("no state", moss.count(13), 4);
        due("cart 0 is where it was", moss.cart(0), 5);
        due("nothing is home", moss.count(6) + moss.count(7), 0);
        moss.set(0, 1);
        moss.keep();
        moss.would(60, SUN);
        due("the snapshot is as it was", moss.restore(), 1);
    }

    /** would of a moss where 60 rows lie that are stacked. */
    private static void wouldOfSixtyRows() {
        PeatBanks moss = sixtyStackedRows();
        due("3 a cart, 9 days", moss.would(9, SUN), 54);
        due("3 a cart, 10 days", moss.would(10, SUN), 60);
        moss.set(0, 6);
        due("6 a cart, 1 day", moss.would(1, CLOUD), 12);
        due("6 a cart, 4 days", moss.would(4, CLOUD), 48);
        due("6 a cart, 5 days", moss.would(5, CLOUD), 60);
        due("6 a cart, 60 days", moss.would(60, CLOUD), 60);
        moss.set(0, 1);
        due("1 a cart, 29 days", moss.would(29, RAIN), 58);
        due("1 a cart, 30 days", moss.would(30, RAIN), 60);
        due("all lie", moss.count(4), 60);
        write(moss, "r29");
        moss.passAll();
        due("58 are home", moss.count(6), 58);
        due("two on the last day", moss.would(1, SUN), 2);
        due("the last two", moss.pass(SUN), 2);
        due("peats", moss.count(7), 1200);
        due("none is left", moss.count(2), 0);
        due("nothing would come", moss.would(60, SUN), 0);
    }

    /** count: what is 0 to 14. */
    private static void numbersOfTheMoss() {
        PeatBanks moss = new PeatBanks();
        int[] empty = {0, 0, 0, 0, 0, 0, 0, 0, 120, 0, 0, 3, 0, 0, 0};
        for (int what = 0; what <= 14; what++) {
            due("empty count(" + what + ")", moss.count(what), empty[what]);
        }
        moss = sixtyStackedRows();
        int[] full = {5, 0, 60, 60, 60, 60, 0, 0, 60, 0, 0, 3, 0, 4, 0};
        for (int what = 0; what <= 14; what++) {
            due("full count(" + what + ")", moss.count(what), full[what]);
        }
        due("what -1", moss.count(-1), BAD_VALUE);
        due("what 15", moss.count(15), BAD_VALUE);
        due("the least what", moss.count(Integer.MIN_VALUE), BAD_VALUE);
        due("the greatest what", moss.count(Integer.MAX_VALUE), BAD_VALUE);
    }
}
