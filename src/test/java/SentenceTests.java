import java.io.IOException;
import java.nio.file.Files;
import java.nio.file.Path;
import java.util.ArrayList;
import java.util.List;
import java.util.function.ToIntFunction;

/**
 * Goes through ../shared/DOC.md from its first line to its last. Each sentence that says what a call answers
 * or changes is quoted, and what is asked behind the quotation fails if the sentence is broken. At the end the
 * document itself is read: each of its words must have been quoted, in its order, so that no sentence of it
 * stands without a test. No object is asked more than 512 times.
 */
public final class SentenceTests {
    private static final Path DOCUMENT = Path.of("../shared/DOC.md");

    private static final int UNKNOWN = -1;
    private static final int BAD_VALUE = -2;
    private static final int FULL = -3;
    private static final int NOT_POSSIBLE = -4;
    private static final int NONE = -5;

    private static final int SUN = 0;
    private static final int CLOUD = 1;
    private static final int RAIN = 2;

    private static final List<String> QUOTED = new ArrayList<>();
    private static String sentence = "";
    private static boolean isAsked = true;
    private static int wrong = 0;

    public static void main(String[] args) throws IOException {
        whatItIs();
        plotsAndCommoners();
        cuttingAndDrying();
        carts();
        trespassAndDisputes();
        theYear();
        texts();
        history();
        errors();
        rights();
        work();
        workOnRows();
        days();
        settlingAndYears();
        textCalls();
        historyCalls();
        toldOfCommonersAndPlots();
        toldOfRows();
        toldOfDisputesAndCarts();
        toldOfTheMoss();
        notPromised();
        everyWordIsQuoted();
        System.out.println(wrong == 0 ? QUOTED.size() + " passages of the document hold" : wrong + " faults");
        if (wrong != 0) {
            System.exit(1);
        }
    }

    // ---- sentences

    /** The tests up to the next quotation are those of these words. */
    private static void says(String words) {
        quote(words);
        isAsked = false;
    }

    /** Words by which no call answers or changes anything. */
    private static void saysNothingOfCalls(String words) {
        quote(words);
    }

    private static void quote(String words) {
        if (!isAsked) {
            fault("nothing is asked");
        }
        isAsked = true;
        sentence = words;
        QUOTED.add(words);
    }

    private static void due(String what, int got, int want) {
        isAsked = true;
        if (got != want) {
            fault(what + " answered " + got + ", due is " + want);
        }
    }

    private static void fault(String what) {
        wrong++;
        System.out.println("\"" + sentence + "\": " + what);
    }

    /** The document without its headings, the face and the signatures, in one line. */
    private static String wordsOfDocument() throws IOException {
        return Files.readString(DOCUMENT)
                .replaceAll("(?s)```.*?```", "")
                .replaceAll("(?m)^#.*$", "")
                .replaceAll("(?m)^`(int )?\\w+\\([^)]*\\)`: ", "")
                .replaceAll("\\s+", " ");
    }

    private static void everyWordIsQuoted() throws IOException {
        quote("");
        String words = wordsOfDocument();
        int behind = 0;
        for (String quoted : QUOTED) {
            int at = words.indexOf(quoted, behind);
            sentence = quoted;
            if (at < 0) {
                fault("it does not stand in the document there");
                return;
            }
            if (!words.substring(behind, at).isBlank()) {
                fault("ahead of it is not quoted: " + words.substring(behind, at));
            }
            behind = at + quoted.length();
        }
        if (!words.substring(behind).isBlank()) {
            fault("behind it is not quoted: " + words.substring(behind));
        }
    }

    // ---- helpers

    private static void times(PeatBanks moss, int days, int weather) {
        for (int day = 0; day < days; day++) {
            moss.pass(weather);
        }
    }

    private static void write(PeatBanks moss, String text) {
        moss.clearText();
        for (int at = 0; at < text.length(); at++) {
            moss.type(text.charAt(at));
        }
    }

    /** What passAll() answers to a text, in a new moss. */
    private static int passText(String text) {
        PeatBanks moss = new PeatBanks();
        write(moss, text);
        return moss.passAll();
    }

    private static void dueFault(String text, int fault) {
        due("the text " + text, passText(text), -100 - fault);
    }

    /** The wetness of a row of the commoner 4 behind the days of a text. */
    private static int wetnessBehind(String text) {
        PeatBanks moss = new PeatBanks();
        moss.cut(4, 8);
        write(moss, text);
        moss.passAll();
        return moss.row(0, 2);
    }

    private static PeatBanks rowsOf(int commoner, int howMany) {
        PeatBanks moss = new PeatBanks();
        for (int row = 0; row < howMany; row++) {
            moss.cut(commoner, commoner * 2);
        }
        return moss;
    }

    /** 60 calls: each commoner has cut the six layers of a plot. */
    private static PeatBanks sixtyRows() {
        PeatBanks moss = new PeatBanks();
        for (int row = 0; row < 60; row++) {
            moss.cut(row / 6, row / 6 * 2);
        }
        return moss;
    }

    /**
     * Fifteen calls: the rows 0 to 2 of the commoner 0 and 3 and 4 of 5, all of wetness 20, of which 0 and 3 are
     * stacked and 1 is turned, 2 and 4 are in dispute (with 1 and 6); the plot 19 is lent to 3; the carts
     * come to 5 and 0 on the next day; the history is full.
     */
    private static PeatBanks busyMoss() {
        PeatBanks moss = new PeatBanks();
        moss.cut(0, 0);
        moss.cut(0, 1);
        moss.cut(0, 2);
        moss.cut(5, 10);
        moss.cut(5, 12);
        moss.lend(19, 3);
        times(moss, 5, SUN);
        moss.stack(0);
        moss.stack(3);
        moss.turn(1);
        return moss;
    }

    /** All that is told of the state: some 220 calls for the busy moss. */
    private static List<Integer> told(PeatBanks moss) {
        List<Integer> told = new ArrayList<>();
        for (int what = 0; what < 13; what++) {
            told.add(moss.count(what));
        }
        for (int plot = 0; plot < 20; plot++) {
            for (int what = 0; what < 4; what++) {
                told.add(moss.plot(plot, what));
            }
        }
        for (int commoner = 0; commoner < 10; commoner++) {
            for (int what = 0; what < 8; what++) {
                told.add(moss.commoner(commoner, what));
            }
        }
        for (int row = 0; row < told.get(3); row++) {
            for (int what = 0; what < 7; what++) {
                told.add(moss.row(row, what));
            }
        }
        for (int rank = 0; rank < told.get(9); rank++) {
            for (int what = 0; what < 4; what++) {
                told.add(moss.dispute(rank, what));
            }
        }
        told.add(moss.cart(0));
        told.add(moss.cart(1));
        return told;
    }

    private static void dueSame(String what, List<Integer> got, List<Integer> want) {
        int differs = 0;
        while (differs < Math.min(got.size(), want.size()) && got.get(differs).equals(want.get(differs))) {
            differs++;
        }
        boolean isSame = differs == got.size() && differs == want.size();
        due(what + ": is the same (it differs at " + differs + ")", isSame ? 1 : 0, 1);
    }

    /** A call records the state ahead of it, and that one alone. */
    private static void dueAct(ToIntFunction<PeatBanks> act) {
        PeatBanks moss = busyMoss();
        PeatBanks other = busyMoss();
        act.applyAsInt(moss);
        due("states behind the act", moss.count(13), 4);
        due("undo of the act", moss.undo(), 3);
        dueSame("the state ahead of the act", told(moss), told(other));
        due("undo of what was ahead of it", moss.undo(), 2);
        other.undo();
        dueSame("the state ahead of that", told(moss), told(other));
    }

    // ---- what it is

    private static void whatItIs() {
        saysNothingOfCalls("A peat moss in which commoners have rights to cut: a bank of plots each with an owner, "
                + "cutting days by right, plots that are cut down layer by layer, peats that dry in rows and are "
                + "turned, rain that wets them, rows that are stacked when they are dry, carts that are shared by a "
                + "rota and bring stacks home, rights that are lent and come back, plots beside that are cut into by "
                + "mistake, disputes that are told with both sides and settled by stakes, why someone cannot cut, how "
                + "much each has at the hearth, what a week would bring, accounts that add up, days that are read from "
                + "a text with the places of faults, undo and a snapshot.");
        says("An object is used for at most 512 calls after it has been made;");
        PeatBanks moss = new PeatBanks();
        times(moss, 509, CLOUD);
        due("the call 510", moss.count(0), 509);
        due("the call 511", moss.undo(), 3);
        due("the call 512", moss.count(0), 508);
        saysNothingOfCalls("what later calls answer is free.");
    }

    // ---- plots and commoners

    private static void plotsAndCommoners() {
        saysNothingOfCalls("PLOTS AND COMMONERS");
        tenAndTwenty();
        layersAndDays();
        lentRights();
    }

    private static void tenAndTwenty() {
        PeatBanks moss = new PeatBanks();
        says("There are 10 commoners, numbered from 0, and 20 plots in a row along the bank, numbered from 0.");
        due("commoner(-1, 0)", moss.commoner(-1, 0), UNKNOWN);
        due("commoner(0, 0)", moss.commoner(0, 0), 6);
        due("commoner(9, 0)", moss.commoner(9, 0), 6);
        due("commoner(10, 0)", moss.commoner(10, 0), UNKNOWN);
        due("plot(-1, 0)", moss.plot(-1, 0), UNKNOWN);
        due("plot(0, 0)", moss.plot(0, 0), 6);
        due("plot(19, 0)", moss.plot(19, 0), 6);
        due("plot(20, 0)", moss.plot(20, 0), UNKNOWN);
        due("9 is beside 10", moss.why(5, 9), 0);
        due("8 is not beside 10", moss.why(5, 8), 4);
        due("0 is not beside 19", moss.why(9, 0), 4);
        due("19 is not beside 0", moss.why(0, 19), 4);
        says("At first the commoner k has the plots 2 * k and 2 * k + 1, as an owner.");
        for (int k = 0; k < 10; k++) {
            due("owner of 2 * " + k, moss.plot(2 * k, 1), k);
            due("owner of 2 * " + k + " + 1", moss.plot(2 * k + 1, 1), k);
            due("right to 2 * " + k, moss.plot(2 * k, 2), k);
            due("right to 2 * " + k + " + 1", moss.plot(2 * k + 1, 2), k);
        }
    }

    private static void layersAndDays() {
        PeatBanks moss = new PeatBanks();
        moss.setDays(6, 20);
        says("A plot has layers of peat (0 to 6; 6 at first).");
        for (int layers = 6; layers > 0; layers--) {
            due("layers", moss.plot(13, 0), layers);
            due("cut", moss.cut(6, 13), 6 - layers);
        }
        due("no layer", moss.plot(13, 0), 0);
        due("no cut then", moss.cut(6, 13), NOT_POSSIBLE);
        due("still no layer", moss.plot(13, 0), 0);
        says("Each commoner has cutting days of a year (0 to 20; 6 at first), of which some are used.");
        for (int commoner = 0; commoner < 6; commoner++) {
            due("days at first", moss.commoner(commoner, 0), 6);
            due("used at first", moss.commoner(commoner, 1), 0);
        }
        due("used by six cuts", moss.commoner(6, 1), 6);
        due("days stay", moss.commoner(6, 0), 20);
        due("21 days", moss.setDays(6, 21), BAD_VALUE);
        due("-1 days", moss.setDays(6, -1), BAD_VALUE);
        due("no day", moss.setDays(6, 0), 20);
        due("none", moss.commoner(6, 0), 0);
        due("the used ones stay", moss.commoner(6, 1), 6);
    }

    private static void lentRights() {
        PeatBanks moss = new PeatBanks();
        says("A right to a plot may be lent to another commoner: then that one cuts there, and the owner does not, "
                + "until it is given back, or the year ends.");
        moss.lend(8, 0);
        moss.lend(9, 0);
        due("the borrower cuts", moss.cut(0, 8), 0);
        due("by right", moss.count(9), 0);
        due("the owner does not", moss.cut(4, 8), NOT_POSSIBLE);
        moss.lend(8, 4);
        moss.lend(9, 4);
        due("given back", moss.cut(4, 8), 1);
        due("the borrower does not", moss.cut(0, 8), NOT_POSSIBLE);
        moss.lend(8, 0);
        moss.lend(9, 0);
        due("lent again", moss.cut(4, 8), NOT_POSSIBLE);
        moss.endYear();
        due("the year has ended", moss.cut(4, 8), 2);
        due("for the borrower, too", moss.cut(0, 8), NOT_POSSIBLE);
    }

    // ---- cutting and drying

    private static void cuttingAndDrying() {
        saysNothingOfCalls("CUTTING AND DRYING");
        aCut();
        rowsAtATime();
        wetness();
        dryAndStacked();
    }

    private static void aCut() {
        PeatBanks moss = new PeatBanks();
        says("To cut, a commoner takes one layer of a plot, which becomes a row of 40 peats;");
        moss.cut(4, 9);
        due("layers of the plot", moss.plot(9, 0), 5);
        due("layers of all plots", moss.count(8), 119);
        due("rows", moss.count(2), 1);
        due("plot of the row", moss.row(0, 1), 9);
        says("it uses one cutting day.");
        due("used", moss.commoner(4, 1), 1);
        due("used by another", moss.commoner(3, 1), 0);
        sentence = "a row of 40 peats";
        times(moss, 9, SUN);
        due("peats of a row without wetness", moss.row(0, 6), 40);
    }

    private static void rowsAtATime() {
        PeatBanks moss = sixtyRows();
        says("At most 60 rows lie at a time;");
        moss.setDays(2, 20);
        due("rows that lie", moss.count(2), 60);
        due("one more", moss.cut(2, 5), NOT_POSSIBLE);
        due("as before", moss.count(2), 60);
        times(moss, 5, SUN);
        moss.stack(0);
        due("one is home", moss.pass(SUN), 1);
        due("then there is room", moss.cut(2, 5), 60);
        due("for one", moss.cut(2, 5), NOT_POSSIBLE);
        says("they are numbered from 0 in the order in which they were cut (never given again).");
        PeatBanks order = new PeatBanks();
        due("the first", order.cut(7, 15), 0);
        due("the second", order.cut(0, 0), 1);
        times(order, 5, SUN);
        order.stack(1);
        due("1 is home", order.pass(SUN), 1);
        due("no row 1", order.row(1, 0), UNKNOWN);
        due("the third", order.cut(0, 0), 2);
        due("all are gone", order.endYear(), 2);
        due("the fourth", order.cut(7, 15), 3);
        due("no row 2", order.row(2, 0), UNKNOWN);
        says("A row belongs to whoever cut it, and has wetness: 50 at first.");
        due("cut beside", order.cut(7, 16), 4);
        due("owner", order.row(4, 0), 7);
        due("wetness", order.row(4, 2), 50);
    }

    private static void wetness() {
        says("In a day of weather w (0 sun, 1 cloud, 2 rain): the wetness of a row that is not stacked becomes less "
                + "by 6 for sun and by 3 for cloud, each 2 more if the row was turned, and more by 4 for rain;");
        int[] notTurned = {44, 47, 54};
        int[] turned = {42, 45, 54};
        for (int weather = SUN; weather <= RAIN; weather++) {
            PeatBanks moss = rowsOf(4, 2);
            moss.turn(1);
            moss.pass(weather);
            due("behind the weather " + weather, moss.row(0, 2), notTurned[weather]);
            due("turned, behind the weather " + weather, moss.row(1, 2), turned[weather]);
        }
        says("it stays within 0 to 60.");
        PeatBanks moss = rowsOf(4, 2);
        moss.turn(1);
        times(moss, 3, RAIN);
        due("at most", moss.row(0, 2), 60);
        due("turned, at most", moss.row(1, 2), 60);
        times(moss, 12, SUN);
        due("at least", moss.row(0, 2), 0);
        due("turned, at least", moss.row(1, 2), 0);
        moss.pass(RAIN);
        moss.pass(CLOUD);
        due("1 behind rain and cloud", moss.row(0, 2), 1);
        due("turned, at least 0 behind them", moss.row(1, 2), 0);
    }

    private static void dryAndStacked() {
        PeatBanks moss = rowsOf(4, 3);
        moss.turn(1);
        moss.turn(2);
        says("A row is dry if its wetness is at most 20.");
        times(moss, 3, SUN);
        moss.pass(CLOUD);
        due("wetness 29", moss.row(0, 5), 0);
        due("wetness 21", moss.row(1, 5), 0);
        moss.pass(CLOUD);
        due("wetness 16", moss.row(1, 5), 1);
        moss.pass(SUN);
        due("wetness 20", moss.row(0, 5), 1);
        says("A stacked row stays as it is.");
        moss.stack(0);
        moss.pass(SUN);
        due("not drier", moss.row(0, 2), 20);
        moss.pass(RAIN);
        due("not wetter", moss.row(0, 2), 20);
        due("the others are", moss.row(1, 2), 4);
        says("To turn and to stack a row its owner needs no day.");
        PeatBanks other = rowsOf(4, 1);
        other.setDays(4, 1);
        due("no day is left", other.why(4, 8), 1);
        due("turned", other.turn(0), 50);
        times(other, 4, SUN);
        due("stacked", other.stack(0), 1);
        due("no more days used", other.commoner(4, 1), 1);
        says("Only dry rows are stacked.");
        PeatBanks wet = rowsOf(4, 1);
        times(wet, 4, SUN);
        due("wetness 26", wet.stack(0), NOT_POSSIBLE);
        wet.pass(SUN);
        due("wetness 20", wet.stack(0), 1);
    }

    // ---- carts

    private static void carts() {
        saysNothingOfCalls("CARTS");
        turnsOfCarts();
        rowsOfCarts();
        peatsOfRows();
    }

    private static void turnsOfCarts() {
        PeatBanks moss = new PeatBanks();
        says("There are 2 carts;");
        due("cart(-1)", moss.cart(-1), UNKNOWN);
        due("cart(0)", moss.cart(0), 0);
        due("cart(1)", moss.cart(1), 5);
        due("cart(2)", moss.cart(2), UNKNOWN);
        says("on each day that passes, behind the weather, each of them serves the commoner whose turn it is: the "
                + "cart c begins with the commoner c * 5, and the turn goes on by one behind each day (behind 9 comes "
                + "0 again), whether it was used or not, and over the ends of years.");
        for (int day = 1; day <= 12; day++) {
            if (day == 7) {
                moss.endYear();
            }
            moss.pass(RAIN);
            due("cart(0) behind " + day + " days", moss.cart(0), day % 10);
            due("cart(1) behind " + day + " days", moss.cart(1), (5 + day) % 10);
        }
        PeatBanks both = busyMoss();
        due("both carts on one day", both.pass(RAIN), 2);
        due("peats of 0", both.commoner(0, 2), 20);
        due("peats of 5", both.commoner(5, 2), 20);
        due("used turns go on, too", both.cart(0), 6);
        both.stack(1);
        due("the turn of others", both.pass(SUN), 0);
    }

    private static void rowsOfCarts() {
        says("A cart takes at most as many stacked rows of that commoner home as the setting 0 tells (1 to 6; 3 at "
                + "first), those with the lowest wetness first, of several by number.");
        PeatBanks moss = rowsOf(9, 5);
        moss.turn(1);
        moss.turn(3);
        times(moss, 5, SUN);
        moss.turn(4);
        times(moss, 4, CLOUD);
        // Wetness 8, 0, 8, 0, 0: the row 4 was turned last.
        for (int row = 0; row < 5; row++) {
            due("stacked", moss.stack(row), row + 1);
        }
        due("three at first", moss.pass(RAIN), 3);
        due("1 is home", moss.row(1, 0), UNKNOWN);
        due("3 is home", moss.row(3, 0), UNKNOWN);
        due("4 is home", moss.row(4, 0), UNKNOWN);
        due("0 lies", moss.row(0, 2), 8);
        due("2 lies", moss.row(2, 2), 8);
        moss.set(0, 1);
        due("the cart 1 takes one", moss.would(5, RAIN), 1);
        times(moss, 5, RAIN);
        due("the lower number", moss.row(0, 0), UNKNOWN);
        due("2 still lies", moss.row(2, 0), 9);
        due("at most what is there", moss.would(60, RAIN), 1);
        PeatBanks six = rowsOf(9, 6);
        times(six, 9, SUN);
        for (int row = 0; row < 6; row++) {
            six.stack(row);
        }
        for (int rows = 1; rows <= 6; rows++) {
            six.set(0, rows);
            due("a cart of " + rows, six.would(1, SUN), rows);
        }
    }

    private static void peatsOfRows() {
        says("At the hearth each row brings 40 peats less its wetness (at least 0).");
        PeatBanks moss = busyMoss();
        moss.pass(RAIN);
        due("of wetness 20", moss.commoner(0, 2), 20);
        times(moss, 4, SUN);
        moss.stack(1);
        due("wetness of another", moss.row(1, 2), 0);
        due("it is taken", moss.pass(RAIN), 1);
        due("40 more", moss.commoner(0, 2), 60);
        PeatBanks wet = rowsOf(4, 1);
        due("of wetness 50", wet.row(0, 6), 0);
        times(wet, 2, SUN);
        due("of wetness 38", wet.row(0, 6), 2);
    }

    // ---- trespass and disputes

    private static void trespassAndDisputes() {
        saysNothingOfCalls("TRESPASS AND DISPUTES");
        trespass();
        settledWithStakes();
        settledAtHome();
        settledWithoutStakes();
    }

    private static void trespass() {
        PeatBanks moss = new PeatBanks();
        says("Somebody may cut into a plot that is beside one on which this commoner has the right to cut (by "
                + "mistake): that is possible, too, but there is a dispute then: of the one who cut, with the one who "
                + "had the right, about the row.");
        due("by right", moss.cut(4, 8), 0);
        due("no dispute", moss.count(9), 0);
        due("beside", moss.cut(4, 7), 1);
        int[] told = {4, 3, 1, 7};
        for (int what = 0; what < 4; what++) {
            due("dispute(0, " + what + ")", moss.dispute(0, what), told[what]);
        }
        moss.lend(10, 8);
        due("beside, where it is lent", moss.cut(4, 10), 2);
        due("with the one who has the right", moss.dispute(1, 1), 8);
        due("two beside", moss.cut(4, 6), NOT_POSSIBLE);
        says("A dispute is open until it is settled.");
        due("open", moss.count(9), 2);
        times(moss, 3, SUN);
        due("still open", moss.count(9), 2);
        moss.settle();
        due("one is settled", moss.count(9), 1);
        due("the other is open", moss.dispute(0, 2), 2);
    }

    private static void settledWithStakes() {
        says("With stakes along the bank (the setting 1 is 1 as it is settled; 0 at first) it is settled for the one "
                + "who had the right as the row was cut: this one gets the row, as long as it lies;");
        PeatBanks moss = new PeatBanks();
        due("no stakes at first", moss.count(12), 0);
        moss.cut(4, 7);
        moss.handOver(7, 9);
        moss.set(1, 1);
        due("for the one who had the right", moss.settle(), 3);
        due("the row is his", moss.row(0, 0), 3);
        due("it lies", moss.count(2), 1);
        due("no more days used", moss.commoner(4, 1), 1);
        due("no peats", moss.count(7), 0);
        PeatBanks before = new PeatBanks();
        before.set(1, 1);
        before.cut(4, 7);
        before.set(1, 0);
        due("no stakes as it is settled", before.settle(), 10);
        due("the row stays", before.row(0, 0), 4);
    }

    private static void settledAtHome() {
        says("if it is home already, 20 peats from the hearth of the one who cut, or as many as there are.");
        PeatBanks moss = new PeatBanks();
        moss.cut(0, 2);
        times(moss, 7, SUN);
        moss.stack(0);
        times(moss, 4, CLOUD);
        due("home", moss.commoner(0, 2), 32);
        moss.set(1, 1);
        due("settled", moss.settle(), 1);
        due("20 less", moss.commoner(0, 2), 12);
        due("20 more", moss.commoner(1, 2), 20);
        due("all together", moss.count(7), 32);
        PeatBanks least = busyMoss();
        least.stack(2);
        least.stack(1);
        due("three rows of 0 and one of 5", least.pass(RAIN), 4);
        least.set(1, 1);
        least.settle();
        due("20 of 60", least.commoner(0, 2), 40);
        due("for 1", least.commoner(1, 2), 20);
    }

    private static void settledWithoutStakes() {
        says("Without stakes both are to blame: nothing is given, but the one who cut uses one more cutting day, if "
                + "any is left.");
        PeatBanks moss = busyMoss();
        moss.setDays(5, 2);
        due("both", moss.settle(), 10);
        due("one day more", moss.commoner(0, 1), 4);
        due("none of the other", moss.commoner(1, 1), 0);
        due("the row stays", moss.row(2, 0), 0);
        due("both again", moss.settle(), 10);
        due("none is left", moss.commoner(5, 1), 2);
        due("none of the other, either", moss.commoner(6, 1), 0);
        due("no peats", moss.count(7), 0);
    }

    // ---- the year

    private static void theYear() {
        saysNothingOfCalls("THE YEAR");
        theEnd();
        reasons();
    }

    private static void theEnd() {
        says("The days of a year are counted (0 at first).");
        due("at first", new PeatBanks().count(0), 0);
        PeatBanks moss = busyMoss();
        due("behind five", moss.count(0), 5);
        says("At the end of a year (an act) all rows that are not home are gone, rights that were lent come back, "
                + "cutting days used are 0, and open disputes are dropped;");
        moss.pass(RAIN);
        due("the gone ones", moss.endYear(), 3);
        due("no row lies", moss.count(2), 0);
        due("those at home stay", moss.count(7), 40);
        due("the lent plot", moss.plot(19, 2), 9);
        due("used by 0", moss.commoner(0, 1), 0);
        due("used by 5", moss.commoner(5, 1), 0);
        due("no open dispute", moss.count(9), 0);
        due("none to settle", moss.settle(), NONE);
        due("the days of the new year", moss.count(0), 0);
        due("an act", moss.undo(), 3);
        due("undone", moss.count(2), 3);
        moss.endYear();
        says("plots stay as they are cut.");
        int[] layers = {5, 5, 5, 6};
        for (int plot = 0; plot < 4; plot++) {
            due("layers of " + plot, moss.plot(plot, 0), layers[plot]);
        }
    }

    private static void reasons() {
        says("The reasons for which a commoner cannot cut at a plot are asked in this order: 1 no cutting day is "
                + "left;");
        PeatBanks moss = sixtyRows();
        due("behind 1 all others", moss.why(2, 18), 1);
        due("no day, and no layer", moss.cut(2, 4), NOT_POSSIBLE);
        moss.setDays(2, 7);
        says("2 the plot has no layer left;");
        due("behind 2 the 60 rows and the right", moss.why(2, 18), 2);
        says("3 60 rows lie already;");
        due("behind 3 the right", moss.why(2, 19), 3);
        due("by right", moss.why(2, 5), 3);
        says("4 the commoner neither has the right there, nor at a plot beside it;");
        moss.endYear();
        due("without right", moss.why(2, 19), 4);
        due("two beside", moss.why(2, 7), 4);
        says("0 it is possible.");
        due("by right", moss.why(2, 5), 0);
        due("beside", moss.why(2, 3), 0);
        due("then a cut, too", moss.cut(2, 3), 60);
    }

    // ---- texts

    private static void texts() {
        saysNothingOfCalls("TEXTS");
        says("There is a text of at most 60 characters, empty at first.");
        PeatBanks moss = new PeatBanks();
        due("empty", moss.count(14), 0);
        for (int length = 1; length <= 60; length++) {
            due("type", moss.type('r'), length);
        }
        due("no room", moss.type('r'), FULL);
        due("60 characters", moss.count(14), 60);
        due("60 groups", moss.passAll(), 60);
        groups();
        numbers();
        faults();
    }

    private static void groups() {
        says("A text of days is one or more groups, one behind the other: \"s\", \"c\" or \"r\" (sun, cloud, rain), and "
                + "perhaps a number (2 to 60) of such days;");
        due("sun", wetnessBehind("s"), 44);
        due("cloud", wetnessBehind("c"), 47);
        due("rain", wetnessBehind("r"), 54);
        due("in their order", wetnessBehind("r9s2"), 48);
        due("in another order", wetnessBehind("s2r9"), 60);
        due("one group", passText("s"), 1);
        due("2 days", passText("c2"), 2);
        due("60 days", passText("r60"), 60);
        due("three groups", passText("s2cr10"), 13);
        dueFault("2", 0);
        dueFault("S", 0);
        dueFault("s 2", 1);
        dueFault("s-2", 1);
    }

    private static void numbers() {
        says("it has no zero in front, and a digit by which it would be above 60 is not allowed;");
        dueFault("s0", 1);
        dueFault("s02", 1);
        dueFault("s61", 2);
        dueFault("cs70", 3);
        dueFault("s600", 3);
        due("6 and 0", passText("s60"), 60);
        due("5 and 9", passText("s59"), 59);
        says("where it is 1, the character behind it is not allowed unless it is a digit (if there is none, the text "
                + "ends too early).");
        dueFault("s1c", 2);
        dueFault("s1x", 2);
        dueFault("s1", 2);
        dueFault("r2c1", 4);
        due("1 and 0", passText("s10"), 10);
        due("1 and 9", passText("s19"), 19);
        due("where it is not 1", passText("s21c"), 22);
    }

    private static void faults() {
        says("The fault of the text is the index, from 0, of the first character that is not allowed at its place, or "
                + "the length of the text if it ends too early (the empty text does).");
        dueFault("x", 0);
        dueFault("sx", 1);
        dueFault("s2c3xy", 4);
        dueFault("xs1", 0);
        dueFault("s1", 2);
        dueFault("", 0);
    }

    // ---- history

    private static void history() {
        saysNothingOfCalls("HISTORY");
        fourStates();
        actsRecord();
        snapshotAndState();
    }

    private static void fourStates() {
        PeatBanks moss = new PeatBanks();
        says("A history of at most 4 states is kept;");
        for (int days = 7; days <= 12; days++) {
            moss.setDays(0, days);
            due("states", moss.count(13), Math.min(4, days - 6));
        }
        says("when one more is recorded, the oldest one is dropped;");
        due("three left", moss.undo(), 3);
        due("two left", moss.undo(), 2);
        due("one left", moss.undo(), 1);
        due("none left", moss.undo(), 0);
        due("the oldest that was kept", moss.commoner(0, 0), 8);
        due("no more", moss.undo(), NONE);
        says("undo() removes and restores the latest one.");
        moss.setDays(0, 3);
        moss.setDays(0, 4);
        due("one is left", moss.undo(), 1);
        due("the latest", moss.commoner(0, 0), 3);
        due("it is removed", moss.count(13), 1);
        due("none is left", moss.undo(), 0);
        due("the one ahead of it", moss.commoner(0, 0), 8);
    }

    private static void actsRecord() {
        says("Each call of a method that is described as an act, and returns no error and not NONE, records the state "
                + "that was before it.");
        PeatBanks moss = new PeatBanks();
        moss.cut(4, 7);
        due("an act", moss.count(13), 1);
        moss.lend(0, 0);
        moss.settle();
        due("a second act", moss.count(13), 2);
        moss.settle();
        moss.stack(0);
        moss.turn(7);
        moss.pass(3);
        moss.passAll();
        moss.restore();
        due("what is refused is none", moss.count(13), 2);
        moss.keep();
        moss.type('s');
        moss.clearText();
        moss.would(5, SUN);
        moss.driest(4, 0);
        due("what is not described as one is none", moss.count(13), 2);
        due("undo of the settlement", moss.undo(), 1);
        due("open again", moss.count(9), 1);
        due("undo of the cut", moss.undo(), 0);
        due("no row", moss.count(2), 0);
    }

    private static void snapshotAndState() {
        says("There is one snapshot, empty at first.");
        PeatBanks moss = new PeatBanks();
        due("empty", moss.restore(), NONE);
        moss.setDays(0, 1);
        moss.keep();
        moss.setDays(0, 2);
        moss.keep();
        moss.setDays(0, 3);
        moss.restore();
        due("one, the later", moss.commoner(0, 0), 2);
        says("A state is everything but the text, the history and the snapshot.");
        moss.type('s');
        moss.setDays(0, 4);
        moss.type('c');
        moss.keep();
        due("undo", moss.undo(), 3);
        due("the text is not undone", moss.count(14), 2);
        moss.restore();
        due("the snapshot is not undone", moss.commoner(0, 0), 4);
        due("the history is not restored", moss.count(13), 4);
        due("the text is not restored", moss.clearText(), 2);
        everythingElseIsAState();
    }

    /** All that is told of a busy moss comes back from the history and from the snapshot. */
    private static void everythingElseIsAState() {
        PeatBanks undone = busyMoss();
        undone.endYear();
        undone.undo();
        dueSame("undone", told(undone), told(busyMoss()));
        PeatBanks restored = busyMoss();
        restored.keep();
        restored.set(0, 6);
        restored.set(1, 1);
        restored.settle();
        restored.handOver(0, 7);
        restored.setDays(5, 11);
        times(restored, 4, RAIN);
        restored.endYear();
        restored.cut(2, 3);
        restored.cut(2, 4);
        restored.restore();
        dueSame("restored", told(restored), told(busyMoss()));
        sameNumbersInAnotherState();
    }

    /** What was undone is done in another way: the numbers of the rows and disputes mean others then. */
    private static void sameNumbersInAnotherState() {
        PeatBanks moss = new PeatBanks();
        moss.cut(2, 3);
        moss.cut(2, 4);
        List<Integer> one = told(moss);
        moss.keep();
        moss.undo();
        moss.undo();
        moss.cut(7, 15);
        moss.cut(7, 13);
        moss.restore();
        dueSame("the one way, restored", told(moss), one);
        moss.undo();
        int[] dispute = {7, 6, 1, 13};
        for (int what = 0; what < 4; what++) {
            due("dispute(0, " + what + ")", moss.dispute(0, what), dispute[what]);
        }
        due("plot of the row 1", moss.row(1, 1), 13);
    }

    // ---- errors

    private static void errors() {
        saysNothingOfCalls("ERRORS");
        says("Errors are reported by the constants below.");
        PeatBanks moss = new PeatBanks();
        due("UNKNOWN", moss.cart(7), PeatBanks.UNKNOWN);
        due("BAD_VALUE", moss.count(99), PeatBanks.BAD_VALUE);
        due("NOT_POSSIBLE", moss.cut(0, 9), PeatBanks.NOT_POSSIBLE);
        due("NONE", moss.undo(), PeatBanks.NONE);
        orderOfErrors();
        nothingIsChanged();
        constants();
    }

    private static void orderOfErrors() {
        PeatBanks moss = busyMoss();
        says("Where several errors can apply, the order of the @return line is the order of the checks.");
        due("setDays", moss.setDays(10, 21), UNKNOWN);
        due("commoner", moss.commoner(10, 8), UNKNOWN);
        due("plot", moss.plot(20, 4), UNKNOWN);
        due("row", moss.row(5, 7), UNKNOWN);
        due("driest", moss.driest(10, -1), UNKNOWN);
        says("NONE is no error;");
        due("it is not the value of one", NONE == UNKNOWN || NONE == BAD_VALUE || NONE == FULL
                || NONE == NOT_POSSIBLE ? 1 : 0, 0);
        due("a call that has nothing to do", moss.lend(19, 3), NONE);
        says("it is returned only if no error applies.");
        due("dispute", moss.dispute(2, 4), BAD_VALUE);
        due("driest", moss.driest(10, 99), UNKNOWN);
        moss.stack(1);
        due("turn of a row that was turned and is stacked", moss.turn(1), NOT_POSSIBLE);
        due("lend", moss.lend(20, 9), UNKNOWN);
    }

    private static void nothingIsChanged() {
        says("A call that returns an error or NONE changes nothing.");
        PeatBanks moss = busyMoss();
        moss.type('x');
        int[] got = {moss.lend(20, 0), moss.lend(0, 10), moss.lend(19, 3), moss.handOver(20, 0), moss.handOver(0, 10),
            moss.handOver(19, 9), moss.setDays(10, 6), moss.setDays(0, 21), moss.setDays(0, 6), moss.set(2, 1),
            moss.set(0, 7), moss.set(1, 0), moss.cut(10, 0), moss.cut(0, 20), moss.cut(0, 9), moss.turn(5),
            moss.turn(0), moss.turn(1), moss.stack(5), moss.stack(0), moss.pass(3), moss.passAll(), moss.restore()};
        int[] want = {UNKNOWN, UNKNOWN, NONE, UNKNOWN, UNKNOWN,
            NONE, UNKNOWN, BAD_VALUE, NONE, BAD_VALUE,
            BAD_VALUE, NONE, UNKNOWN, UNKNOWN, NOT_POSSIBLE, UNKNOWN,
            NOT_POSSIBLE, NONE, UNKNOWN, NONE, BAD_VALUE, -100, NONE};
        for (int call = 0; call < want.length; call++) {
            due("the refused call " + call, got[call], want[call]);
        }
        due("states", moss.count(13), 4);
        due("text", moss.count(14), 1);
        PeatBanks other = busyMoss();
        dueSame("what is told", told(moss), told(other));
        moss.undo();
        other.undo();
        dueSame("what is told behind an undo", told(moss), told(other));
    }

    private static void constants() {
        says("The constants: `UNKNOWN = -1`: There is no such commoner, plot, row, cart or dispute.");
        due("UNKNOWN", PeatBanks.UNKNOWN, -1);
        PeatBanks moss = new PeatBanks();
        due("commoner", moss.commoner(10, 0), -1);
        due("plot", moss.plot(20, 0), -1);
        due("row", moss.row(0, 0), -1);
        due("cart", moss.cart(2), -1);
        says("`BAD_VALUE = -2`: Another argument is out of range.");
        due("BAD_VALUE", PeatBanks.BAD_VALUE, -2);
        due("another argument", moss.setDays(0, 21), -2);
        says("`FULL = -3`: There is no more room.");
        due("FULL", PeatBanks.FULL, -3);
        for (int length = 0; length < 60; length++) {
            moss.type('s');
        }
        due("no more room", moss.type('s'), -3);
        says("`NOT_POSSIBLE = -4`: This is not possible.");
        due("NOT_POSSIBLE", PeatBanks.NOT_POSSIBLE, -4);
        due("not possible", moss.cut(0, 19), -4);
        says("`NONE = -5`: There is no such thing; not an error.");
        due("NONE", PeatBanks.NONE, -5);
        due("no such thing", moss.driest(0, 0), -5);
        saysNothingOfCalls("Ahead of the calls `lend`, `handOver`, `setDays`, `set` the interface says: ---- rights.");
        saysNothingOfCalls("Ahead of the calls `cut`, `turn`, `stack`, `pass`, `passAll`, `settle`, `endYear` the "
                + "interface says: ---- work.");
        saysNothingOfCalls("Ahead of the calls `type`, `clearText` the interface says: ---- texts.");
        saysNothingOfCalls("Ahead of the calls `undo`, `keep`, `restore` the interface says: ---- history.");
        saysNothingOfCalls("Ahead of the calls `commoner`, `plot`, `row`, `driest`, `why`, `dispute`, `cart`, `would`, "
                + "`count` the interface says: ---- what is told.");
    }

    // ---- promises 1 to 5

    private static void rights() {
        newMoss();
        lend();
        handOver();
        setDays();
        set();
    }

    private static void newMoss() {
        says("Creates a moss that is not cut.");
        PeatBanks moss = new PeatBanks();
        due("layers", moss.count(8), 120);
        int[] counts = {0, 0, 0, 0, 0, 0, 0, 0, 120, 0, 0, 3, 0, 0, 0};
        for (int what = 0; what < 15; what++) {
            due("count(" + what + ")", moss.count(what), counts[what]);
        }
        PeatBanks other = new PeatBanks();
        other.cut(0, 0);
        due("an object of its own", moss.count(8), 120);
    }

    private static void lend() {
        says("Lends the right to a plot.");
        PeatBanks moss = new PeatBanks();
        moss.lend(5, 7);
        due("the right", moss.plot(5, 2), 7);
        due("the owner", moss.plot(5, 1), 2);
        due("lent", moss.plot(5, 3), 1);
        due("the right to another plot", moss.plot(4, 2), 2);
        says("This is an act.");
        dueAct(each -> each.lend(4, 9));
        says("- `plot`: 0 to 19 - `to`: a commoner");
        due("lend(0, 9)", moss.lend(0, 9), 0);
        due("lend(19, 0)", moss.lend(19, 0), 9);
        says("Returns the commoner who had the right;");
        due("the owner", moss.lend(6, 5), 3);
        due("who borrowed it", moss.lend(6, 3), 5);
        says("UNKNOWN (plot or to);");
        due("lend(-1, 0)", moss.lend(-1, 0), UNKNOWN);
        due("lend(20, 0)", moss.lend(20, 0), UNKNOWN);
        due("lend(0, -1)", moss.lend(0, -1), UNKNOWN);
        due("lend(0, 10)", moss.lend(0, 10), UNKNOWN);
        says("NONE if that one has it already.");
        due("who borrowed it", moss.lend(5, 7), NONE);
        due("the owner", moss.lend(6, 3), NONE);
    }

    private static void handOver() {
        says("Gives a plot another owner, who has the right then.");
        PeatBanks moss = new PeatBanks();
        moss.lend(3, 8);
        moss.handOver(3, 4);
        due("owner", moss.plot(3, 1), 4);
        due("right", moss.plot(3, 2), 4);
        due("not lent", moss.plot(3, 3), 0);
        due("another plot", moss.plot(2, 1), 1);
        moss.endYear();
        due("over the end of a year", moss.plot(3, 1), 4);
        due("the right, too", moss.plot(3, 2), 4);
        says("This is an act.");
        dueAct(each -> each.handOver(19, 8));
        says("- `plot`: 0 to 19 - `owner`: a commoner");
        due("handOver(0, 9)", moss.handOver(0, 9), 0);
        due("handOver(19, 0)", moss.handOver(19, 0), 9);
        says("Returns the previous owner;");
        moss.lend(19, 5);
        due("not who borrowed it", moss.handOver(19, 6), 0);
        says("UNKNOWN (plot or owner);");
        due("handOver(-1, 0)", moss.handOver(-1, 0), UNKNOWN);
        due("handOver(20, 0)", moss.handOver(20, 0), UNKNOWN);
        due("handOver(0, -1)", moss.handOver(0, -1), UNKNOWN);
        due("handOver(0, 10)", moss.handOver(0, 10), UNKNOWN);
        says("NONE if it is the same.");
        due("the same", moss.handOver(19, 6), NONE);
        due("at first", moss.handOver(10, 5), NONE);
    }

    private static void setDays() {
        says("Sets the cutting days of a commoner.");
        PeatBanks moss = new PeatBanks();
        moss.setDays(7, 9);
        due("days", moss.commoner(7, 0), 9);
        due("of another", moss.commoner(6, 0), 6);
        says("This is an act.");
        dueAct(each -> each.setDays(0, 1));
        says("- `commoner`: a commoner - `days`: 0 to 20");
        due("setDays(0, 0)", moss.setDays(0, 0), 6);
        due("setDays(9, 20)", moss.setDays(9, 20), 6);
        says("Returns the previous number;");
        due("9", moss.setDays(7, 2), 9);
        due("2", moss.setDays(7, 3), 2);
        says("UNKNOWN;");
        due("setDays(-1, 6)", moss.setDays(-1, 6), UNKNOWN);
        due("setDays(10, 6)", moss.setDays(10, 6), UNKNOWN);
        says("BAD_VALUE;");
        due("setDays(0, -1)", moss.setDays(0, -1), BAD_VALUE);
        due("setDays(0, 21)", moss.setDays(0, 21), BAD_VALUE);
        says("NONE if it is so already.");
        due("3", moss.setDays(7, 3), NONE);
        due("6", moss.setDays(1, 6), NONE);
    }

    private static void set() {
        says("Sets a setting: 0 the rows of a cart (1 to 6), 1 whether there are stakes (0 or 1).");
        PeatBanks moss = new PeatBanks();
        moss.set(0, 1);
        due("rows of a cart", moss.count(11), 1);
        due("not the stakes", moss.count(12), 0);
        moss.set(1, 1);
        moss.set(0, 6);
        due("six rows", moss.count(11), 6);
        due("stakes", moss.count(12), 1);
        says("This is an act.");
        dueAct(each -> each.set(0, 1));
        dueAct(each -> each.set(1, 1));
        says("- `which`: 0 or 1 - `value`: in its range");
        for (int value = 1; value <= 5; value++) {
            due("set(0, " + value + ")", moss.set(0, value), value == 1 ? 6 : value - 1);
        }
        due("set(1, 0)", moss.set(1, 0), 1);
        says("Returns the previous one;");
        due("rows", moss.set(0, 2), 5);
        due("stakes", moss.set(1, 1), 0);
        says("BAD_VALUE (which or value);");
        due("set(-1, 1)", moss.set(-1, 1), BAD_VALUE);
        due("set(2, 1)", moss.set(2, 1), BAD_VALUE);
        due("set(0, 0)", moss.set(0, 0), BAD_VALUE);
        due("set(0, 7)", moss.set(0, 7), BAD_VALUE);
        due("set(1, -1)", moss.set(1, -1), BAD_VALUE);
        due("set(1, 2)", moss.set(1, 2), BAD_VALUE);
        says("NONE if it is so already.");
        due("rows", moss.set(0, 2), NONE);
        due("stakes", moss.set(1, 1), NONE);
    }

    // ---- promises 6 to 8

    private static void work() {
        says("A commoner cuts.");
        PeatBanks moss = new PeatBanks();
        moss.cut(9, 18);
        due("layers", moss.plot(18, 0), 5);
        due("a row", moss.count(2), 1);
        due("of 9", moss.row(0, 0), 9);
        due("a day", moss.commoner(9, 1), 1);
        says("This is an act.");
        dueAct(each -> each.cut(2, 6));
        says("- `commoner`: a commoner - `plot`: 0 to 19");
        due("cut(0, 0)", moss.cut(0, 0), 1);
        due("cut(9, 19)", moss.cut(9, 19), 2);
        says("Returns the number of the row;");
        due("the next", moss.cut(0, 1), 3);
        due("it lies", moss.row(3, 1), 1);
        says("UNKNOWN (commoner or plot);");
        due("cut(-1, 0)", moss.cut(-1, 0), UNKNOWN);
        due("cut(10, 19)", moss.cut(10, 19), UNKNOWN);
        due("cut(0, -1)", moss.cut(0, -1), UNKNOWN);
        due("cut(9, 20)", moss.cut(9, 20), UNKNOWN);
        says("NOT_POSSIBLE if it is not possible.");
        due("without right", moss.cut(0, 5), NOT_POSSIBLE);
        moss.setDays(0, 2);
        due("without a day", moss.cut(0, 0), NOT_POSSIBLE);
        due("no row by that", moss.count(3), 4);
    }

    private static void workOnRows() {
        says("Turns a row.");
        PeatBanks moss = rowsOf(4, 3);
        moss.turn(1);
        due("turned", moss.row(1, 3), 1);
        due("another one", moss.row(0, 3), 0);
        says("This is an act.");
        dueAct(each -> each.turn(2));
        says("- `row`: a row that lies");
        due("the row 0", moss.turn(0), 50);
        says("Returns its wetness;");
        moss.pass(CLOUD);
        due("behind a cloud", moss.turn(2), 47);
        says("UNKNOWN;");
        due("turn(-1)", moss.turn(-1), UNKNOWN);
        due("turn(3)", moss.turn(3), UNKNOWN);
        PeatBanks busy = busyMoss();
        says("NOT_POSSIBLE if it is stacked;");
        due("stacked", busy.turn(0), NOT_POSSIBLE);
        says("NONE if it was turned.");
        due("turned", busy.turn(1), NONE);
        busy.pass(SUN);
        due("turned on another day", busy.turn(1), NONE);
        due("a row at home is none", busy.turn(0), UNKNOWN);
        stack();
    }

    private static void stack() {
        says("Stacks a row.");
        PeatBanks moss = busyMoss();
        moss.stack(4);
        due("stacked", moss.row(4, 4), 1);
        due("another one", moss.row(2, 4), 0);
        says("This is an act.");
        dueAct(each -> each.stack(2));
        says("- `row`: a row that lies");
        due("the row 2", moss.stack(2), 2);
        says("Returns how many stacked rows its owner has then;");
        due("the third of 0", moss.stack(1), 3);
        due("all stacked", moss.count(4), 5);
        says("UNKNOWN;");
        due("stack(-1)", moss.stack(-1), UNKNOWN);
        due("stack(5)", moss.stack(5), UNKNOWN);
        says("NOT_POSSIBLE if it is not dry;");
        moss.cut(3, 6);
        due("wet", moss.stack(5), NOT_POSSIBLE);
        says("NONE if it is stacked.");
        due("stacked", moss.stack(2), NONE);
        moss.pass(RAIN);
        due("a row at home is none", moss.stack(2), UNKNOWN);
    }

    // ---- promises 9 and 10

    private static void days() {
        says("Lets a day pass.");
        PeatBanks moss = busyMoss();
        moss.pass(RAIN);
        due("days", moss.count(0), 6);
        due("weather", moss.row(2, 2), 24);
        due("carts", moss.cart(0), 6);
        says("This is an act.");
        dueAct(each -> each.pass(CLOUD));
        says("- `weather`: 0 to 2");
        due("sun", moss.pass(0), 0);
        due("cloud", moss.pass(1), 0);
        due("rain", moss.pass(2), 0);
        says("Returns how many rows are brought home;");
        due("two", busyMoss().pass(RAIN), 2);
        says("BAD_VALUE.");
        due("pass(-1)", moss.pass(-1), BAD_VALUE);
        due("pass(3)", moss.pass(3), BAD_VALUE);
        passAll();
    }

    private static void passAll() {
        says("Lets the days of the text, which stays, pass.");
        PeatBanks moss = busyMoss();
        write(moss, "r2s");
        moss.passAll();
        due("days", moss.count(0), 8);
        due("weather", moss.row(2, 2), 22);
        due("rows brought home", moss.count(6), 2);
        due("carts", moss.cart(0), 8);
        due("the text", moss.count(14), 3);
        due("once more", moss.passAll(), 3);
        due("the days of it", moss.count(0), 11);
        says("This is one act.");
        dueAct(each -> each.type('c') + each.type('9') + each.passAll());
        says("Returns how many days they are;");
        due("3 and 60", passText("s3r60"), 63);
        due("all that there can be", passText("s60".repeat(20)), 1200);
        says("-100 minus the fault of the text if it has one (which is an error).");
        write(moss, "s2c0");
        due("the fault 3", moss.passAll(), -103);
        due("no day by that", moss.count(0), 11);
        due("the fault 0", passText(""), -100);
        due("the fault 59", passText("s".repeat(59) + "1"), -160);
    }

    // ---- promises 11 and 12

    private static void settlingAndYears() {
        says("Settles the oldest open dispute.");
        PeatBanks moss = busyMoss();
        moss.settle();
        due("one is open", moss.count(9), 1);
        due("the later one", moss.dispute(0, 2), 4);
        says("This is an act.");
        dueAct(PeatBanks::settle);
        says("Returns the commoner who gets the row or the peats, or, if both are to blame, 10;");
        due("both", busyMoss().settle(), 10);
        moss.set(1, 1);
        due("the row", moss.settle(), 6);
        PeatBanks home = busyMoss();
        home.stack(2);
        home.pass(RAIN);
        home.set(1, 1);
        due("the peats", home.settle(), 1);
        says("NONE if none is open.");
        due("none is left", moss.settle(), NONE);
        due("none was there", new PeatBanks().settle(), NONE);
        says("Ends the year.");
        home.endYear();
        due("years", home.count(1), 1);
        due("rows", home.count(2), 0);
        due("days", home.count(0), 0);
        due("used", home.commoner(0, 1), 0);
        due("lent", home.plot(19, 3), 0);
        due("open", home.count(9), 0);
        due("peats stay", home.commoner(1, 2), 20);
        says("This is an act.");
        dueAct(PeatBanks::endYear);
        says("Returns how many rows are gone by that.");
        PeatBanks busy = busyMoss();
        due("five", busy.endYear(), 5);
        due("all of them", busy.count(2), 0);
        due("none", home.endYear(), 0);
        due("of sixty", sixtyRows().endYear(), 60);
    }

    // ---- promises 13 and 14

    private static void textCalls() {
        says("Types a character behind the text.");
        PeatBanks moss = new PeatBanks();
        moss.type('r');
        moss.type('2');
        due("r2", moss.passAll(), 2);
        moss.type('0');
        due("r20", moss.passAll(), 20);
        says("- `character`: any character");
        due("the least", moss.type((char) 0), 4);
        due("the greatest", moss.type(Character.MAX_VALUE), 5);
        due("one above 255", moss.type((char) 0x173), 6);
        due("they are none of days", moss.passAll(), -103);
        says("Returns the length of the text then;");
        due("one more", moss.type(' '), 7);
        says("FULL if it has 60 characters.");
        for (int length = 8; length <= 60; length++) {
            due("type", moss.type('s'), length);
        }
        due("the 61st", moss.type('s'), FULL);
        says("Empties the text.");
        moss.clearText();
        due("length", moss.count(14), 0);
        due("no days", moss.passAll(), -100);
        due("from its start", moss.type('c'), 1);
        due("one day", moss.passAll(), 1);
        says("Returns the length that it had.");
        due("1", moss.clearText(), 1);
        due("0", moss.clearText(), 0);
    }

    // ---- promises 15 to 17

    private static void historyCalls() {
        says("Removes and restores the latest state of the history.");
        PeatBanks moss = busyMoss();
        moss.undo();
        due("restored", moss.row(1, 3), 0);
        due("not the one ahead of it", moss.row(3, 4), 1);
        due("removed", moss.count(13), 3);
        says("Returns the number of states that are left;");
        for (int left = 2; left >= 0; left--) {
            due("left", moss.undo(), left);
        }
        says("NONE if the history is empty.");
        due("empty", moss.undo(), NONE);
        due("of a new moss", new PeatBanks().undo(), NONE);
        says("Takes a snapshot of the state, in place of the one that was.");
        moss.setDays(0, 10);
        moss.keep();
        moss.setDays(0, 11);
        moss.keep();
        moss.setDays(0, 12);
        moss.restore();
        due("the later snapshot", moss.commoner(0, 0), 11);
        says("Returns how many rows lie.");
        due("five", moss.keep(), 5);
        due("none", new PeatBanks().keep(), 0);
        due("sixty", sixtyRows().keep(), 60);
        restore();
    }

    private static void restore() {
        says("Restores the state of the snapshot, which stays.");
        PeatBanks moss = busyMoss();
        moss.keep();
        moss.endYear();
        moss.restore();
        dueSame("restored", told(moss), told(busyMoss()));
        moss.turn(2);
        moss.restore();
        due("it stays", moss.row(2, 3), 0);
        says("This is an act.");
        dueAct(each -> each.keep() + each.restore());
        says("Returns how many rows lie then;");
        moss.endYear();
        due("five", moss.restore(), 5);
        says("NONE if there is no snapshot.");
        due("none", busyMoss().restore(), NONE);
    }

    // ---- promises 18 and 19

    private static void toldOfCommonersAndPlots() {
        says("- `commoner`: a commoner - `what`: 0 for the cutting days, 1 for those used this year, 2 for the peats at "
                + "the hearth, 3 for the rows that lie, 4 for those of them that are stacked, 5 for the plots owned, 6 "
                + "for the plots with the right to cut, 7 for the open disputes in which the commoner is on either "
                + "side");
        PeatBanks moss = busyMoss();
        moss.setDays(0, 9);
        moss.cut(1, 1);
        moss.lend(15, 0);
        moss.lend(16, 0);
        moss.handOver(17, 0);
        moss.pass(CLOUD);
        moss.stack(2);
        int[] ofZero = {9, 3, 20, 2, 1, 3, 5, 2};
        for (int what = 0; what < 8; what++) {
            due("commoner(0, " + what + ")", moss.commoner(0, what), ofZero[what]);
        }
        int[] ofOne = {6, 1, 0, 1, 0, 2, 2, 2};
        says("Returns the number;");
        for (int what = 0; what < 8; what++) {
            due("commoner(1, " + what + ")", moss.commoner(1, what), ofOne[what]);
        }
        due("disputes of 5", moss.commoner(5, 7), 1);
        due("disputes of 6", moss.commoner(6, 7), 1);
        due("disputes of 9", moss.commoner(9, 7), 0);
        due("rows of 0 ahead of the cart", busyMoss().commoner(0, 3), 3);
        says("UNKNOWN;");
        due("commoner(-1, 0)", moss.commoner(-1, 0), UNKNOWN);
        due("commoner(10, 0)", moss.commoner(10, 0), UNKNOWN);
        says("BAD_VALUE.");
        due("commoner(0, -1)", moss.commoner(0, -1), BAD_VALUE);
        due("commoner(9, 8)", moss.commoner(9, 8), BAD_VALUE);
        toldOfPlots();
    }

    private static void toldOfPlots() {
        says("- `plot`: 0 to 19 - `what`: 0 for its layers, 1 for its owner, 2 for who has the right to cut, 3 for "
                + "whether it is lent (1, otherwise 0)");
        PeatBanks moss = new PeatBanks();
        moss.lend(13, 2);
        moss.cut(2, 13);
        int[] lent = {5, 6, 2, 1};
        for (int what = 0; what < 4; what++) {
            due("plot(13, " + what + ")", moss.plot(13, what), lent[what]);
        }
        says("Returns the number;");
        int[] other = {6, 6, 6, 0};
        for (int what = 0; what < 4; what++) {
            due("plot(12, " + what + ")", moss.plot(12, what), other[what]);
        }
        says("UNKNOWN;");
        due("plot(-1, 0)", moss.plot(-1, 0), UNKNOWN);
        due("plot(20, 0)", moss.plot(20, 0), UNKNOWN);
        says("BAD_VALUE.");
        due("plot(0, -1)", moss.plot(0, -1), BAD_VALUE);
        due("plot(19, 4)", moss.plot(19, 4), BAD_VALUE);
    }

    // ---- promises 20 and 21

    private static void toldOfRows() {
        says("- `row`: a row that lies - `what`: 0 for its owner, 1 for its plot, 2 for its wetness, 3 for whether it "
                + "was turned, 4 for whether it is stacked, 5 for whether it is dry (3 to 5: 1, otherwise 0), 6 for "
                + "what it would bring at the hearth now");
        PeatBanks moss = busyMoss();
        int[] turned = {0, 1, 20, 1, 0, 1, 20};
        int[] stacked = {5, 10, 20, 0, 1, 1, 20};
        for (int what = 0; what < 7; what++) {
            due("row(1, " + what + ")", moss.row(1, what), turned[what]);
            due("row(3, " + what + ")", moss.row(3, what), stacked[what]);
        }
        says("Returns the number;");
        moss.pass(RAIN);
        int[] wet = {5, 12, 24, 0, 0, 0, 16};
        for (int what = 0; what < 7; what++) {
            due("row(4, " + what + ")", moss.row(4, what), wet[what]);
        }
        says("UNKNOWN;");
        due("row(-1, 0)", moss.row(-1, 0), UNKNOWN);
        due("row(5, 0)", moss.row(5, 0), UNKNOWN);
        due("a row at home", moss.row(0, 0), UNKNOWN);
        says("BAD_VALUE.");
        due("row(1, -1)", moss.row(1, -1), BAD_VALUE);
        due("row(1, 7)", moss.row(1, 7), BAD_VALUE);
        driest();
    }

    private static void driest() {
        says("Tells the rows of a commoner that lie, by wetness, the driest first, of several by number.");
        PeatBanks moss = rowsOf(7, 4);
        moss.cut(6, 13);
        moss.turn(1);
        moss.turn(2);
        moss.pass(SUN);
        int[] order = {1, 2, 0, 3};
        for (int rank = 0; rank < 4; rank++) {
            due("driest(7, " + rank + ")", moss.driest(7, rank), order[rank]);
        }
        due("of another", moss.driest(6, 0), 4);
        says("- `commoner`: a commoner - `rank`: a rank, from 0");
        due("driest(0, 0)", moss.driest(0, 0), NONE);
        due("driest(9, 0)", moss.driest(9, 0), NONE);
        says("Returns the row;");
        times(moss, 4, SUN);
        moss.stack(1);
        due("stacked ones, too", moss.driest(7, 0), 1);
        times(moss, 3, CLOUD);
        due("those at home not", moss.driest(7, 0), 2);
        says("UNKNOWN;");
        due("driest(-1, 0)", moss.driest(-1, 0), UNKNOWN);
        due("driest(10, 0)", moss.driest(10, 0), UNKNOWN);
        says("BAD_VALUE if rank is negative;");
        due("driest(7, -1)", moss.driest(7, -1), BAD_VALUE);
        says("NONE if there are not so many.");
        due("the last", moss.driest(7, 2), 3);
        due("one more", moss.driest(7, 3), NONE);
    }

    // ---- promises 22 to 24

    private static void toldOfDisputesAndCarts() {
        says("Tells why a commoner cannot cut at a plot.");
        PeatBanks moss = busyMoss();
        due("without right", moss.why(0, 9), 4);
        moss.setDays(0, 3);
        due("without a day", moss.why(0, 0), 1);
        due("nothing is cut by that", moss.count(3), 5);
        says("- `commoner`: a commoner - `plot`: 0 to 19");
        due("why(9, 18)", moss.why(9, 18), 0);
        due("why(3, 19)", moss.why(3, 19), 0);
        due("why(1, 0)", moss.why(1, 0), 4);
        says("Returns the reason, 0 if it is possible;");
        due("possible", moss.why(2, 4), 0);
        due("beside", moss.why(2, 3), 0);
        due("not beside", moss.why(2, 2), 4);
        says("UNKNOWN (commoner or plot).");
        due("why(-1, 0)", moss.why(-1, 0), UNKNOWN);
        due("why(10, 0)", moss.why(10, 0), UNKNOWN);
        due("why(0, -1)", moss.why(0, -1), UNKNOWN);
        due("why(0, 20)", moss.why(0, 20), UNKNOWN);
        disputes();
    }

    private static void disputes() {
        says("- `rank`: a rank among the open disputes, the oldest first - `what`: 0 for the one who cut, 1 for the one "
                + "who had the right, 2 for the row, 3 for the plot");
        PeatBanks moss = busyMoss();
        int[] oldest = {0, 1, 2, 2};
        int[] later = {5, 6, 4, 12};
        for (int what = 0; what < 4; what++) {
            due("dispute(0, " + what + ")", moss.dispute(0, what), oldest[what]);
            due("dispute(1, " + what + ")", moss.dispute(1, what), later[what]);
        }
        says("Returns the number;");
        moss.settle();
        for (int what = 0; what < 4; what++) {
            due("then dispute(0, " + what + ")", moss.dispute(0, what), later[what]);
        }
        says("BAD_VALUE (rank is negative, or what);");
        due("dispute(-1, 0)", moss.dispute(-1, 0), BAD_VALUE);
        due("dispute(0, -1)", moss.dispute(0, -1), BAD_VALUE);
        due("dispute(0, 4)", moss.dispute(0, 4), BAD_VALUE);
        says("NONE if there are not so many.");
        due("dispute(1, 0)", moss.dispute(1, 0), NONE);
        due("a great rank", moss.dispute(Integer.MAX_VALUE, 3), NONE);
        says("- `cart`: 0 or 1");
        due("cart(0)", moss.cart(0), 5);
        due("cart(1)", moss.cart(1), 0);
        says("Returns the commoner whose turn it is on the next day;");
        moss.stack(1);
        due("0 and 5 are served", moss.pass(SUN), 3);
        due("then 6", moss.cart(0), 6);
        due("and 1", moss.cart(1), 1);
        says("UNKNOWN.");
        due("cart(-1)", moss.cart(-1), UNKNOWN);
        due("cart(2)", moss.cart(2), UNKNOWN);
    }

    // ---- promises 25 and 26

    private static void toldOfTheMoss() {
        says("Tells how many rows would be brought home if so many days of one weather passed, and nothing else was "
                + "done.");
        PeatBanks moss = busyMoss();
        due("one day", moss.would(1, SUN), 2);
        moss.cut(3, 6);
        due("rows that are not stacked stay", moss.would(60, SUN), 2);
        due("days", moss.count(0), 5);
        due("rows", moss.count(2), 6);
        due("carts", moss.cart(0), 5);
        moss.set(0, 1);
        moss.stack(1);
        moss.stack(2);
        says("- `days`: 1 to 60 - `weather`: 0 to 2");
        due("would(1, 0)", moss.would(1, 0), 2);
        due("would(1, 2)", moss.would(1, 2), 2);
        due("would(60, 1)", moss.would(60, 1), 4);
        says("Returns how many;");
        due("five days", moss.would(5, CLOUD), 2);
        due("six days", moss.would(6, CLOUD), 3);
        due("eleven days", moss.would(11, CLOUD), 4);
        says("BAD_VALUE.");
        due("would(0, 0)", moss.would(0, 0), BAD_VALUE);
        due("would(61, 0)", moss.would(61, 0), BAD_VALUE);
        due("would(1, -1)", moss.would(1, -1), BAD_VALUE);
        due("would(1, 3)", moss.would(1, 3), BAD_VALUE);
        counts();
    }

    private static void counts() {
        says("- `what`: 0 for the days of this year, 1 for years so far, 2 for rows that lie, 3 for rows so far, 4 for "
                + "stacked ones, 5 for dry ones, 6 for rows brought home so far, 7 for peats at all hearths, 8 for "
                + "layers of all plots, 9 for open disputes, 10 for disputes so far, 11 and 12 for the settings, 13 for "
                + "the states in the history, 14 for the length of the text");
        PeatBanks moss = busyMoss();
        moss.cut(3, 6);
        write(moss, "abc");
        int[] busy = {5, 0, 6, 6, 2, 5, 0, 0, 114, 2, 2, 3, 0, 4, 3};
        for (int what = 0; what < 15; what++) {
            due("count(" + what + ")", moss.count(what), busy[what]);
        }
        moss.pass(RAIN);
        moss.settle();
        moss.endYear();
        moss.cut(4, 8);
        moss.cut(4, 7);
        moss.cut(4, 10);
        moss.settle();
        moss.pass(SUN);
        moss.pass(SUN);
        moss.set(0, 5);
        moss.set(1, 1);
        moss.clearText();
        moss.undo();
        moss.set(1, 1);
        moss.undo();
        moss.undo();
        moss.set(1, 1);
        says("Returns the number;");
        int[] later = {2, 1, 3, 9, 0, 0, 2, 40, 111, 1, 4, 3, 1, 3, 0};
        for (int what = 0; what < 15; what++) {
            due("later count(" + what + ")", moss.count(what), later[what]);
        }
        says("BAD_VALUE.");
        due("count(-1)", moss.count(-1), BAD_VALUE);
        due("count(15)", moss.count(15), BAD_VALUE);
    }

    private static void notPromised() {
        saysNothingOfCalls("How the state is held inside the object is free, as are the speed of each call, the text of "
                + "toString and the behaviour of equals and hashCode.");
        saysNothingOfCalls("Use of one object from several threads at once is not promised to be safe.");
        saysNothingOfCalls("Nothing is promised beyond the answers and state changes described above, and nothing about "
                + "an object after its 512th call.");
    }
}
