import java.util.ArrayList;
import java.util.Arrays;
import java.util.List;
import java.util.function.Supplier;
import java.util.function.ToIntFunction;

/**
 * Each call that is refused or has nothing to do answers the error that comes first, and changes nothing:
 * behind it, all that is told, all states of the history, the snapshot and the text are as they are in an
 * object that was not asked. No object is asked more than 512 times.
 */
public final class RefusedCalls {
    private static final int UNKNOWN = -1;
    private static final int BAD_VALUE = -2;
    private static final int FULL = -3;
    private static final int NOT_POSSIBLE = -4;
    private static final int NONE = -5;

    private static final int LEAST = Integer.MIN_VALUE;
    private static final int MOST = Integer.MAX_VALUE;

    private record Refused(String call, int due, ToIntFunction<PeatBanks> ask) { }

    private static int wrong = 0;
    private static List<Refused> calls = new ArrayList<>();

    public static void main(String[] args) {
        busyMossIsAsItSays();
        check("a new moss", RefusedCalls::newMoss, onNewMoss());
        check("a busy moss", RefusedCalls::busyMoss, onBusyMoss());
        check("a full moss", RefusedCalls::fullMoss, onFullMoss());
        System.out.println(wrong == 0 ? "all refused calls are as due" : wrong + " refused calls are not as due");
        if (wrong != 0) {
            System.exit(1);
        }
    }

    private static void check(String name, Supplier<PeatBanks> make, List<Refused> refused) {
        int[][] due = new int[VIEWS][];
        for (int view = 0; view < VIEWS; view++) {
            due[view] = view(make.get(), view);
        }
        for (Refused each : refused) {
            for (int view = 0; view < VIEWS; view++) {
                PeatBanks moss = make.get();
                int got = each.ask.applyAsInt(moss);
                if (got != each.due) {
                    wrong++;
                    System.out.println(name + ": " + each.call + " answered " + got + ", due is " + each.due);
                    break;
                }
                if (!Arrays.equals(view(moss, view), due[view])) {
                    wrong++;
                    System.out.println(name + ": " + each.call + " changed something (view " + view + ")");
                }
            }
        }
    }

    private static final int VIEWS = 5;

    /** What is told now, behind one undo, behind all undos, of the snapshot, and behind the days of the text. */
    private static int[] view(PeatBanks moss, int view) {
        List<Integer> told = new ArrayList<>();
        if (view == 1) {
            told.add(moss.undo());
        }
        for (int states = moss.count(13); view == 2 && states >= 0; states--) {
            told.add(moss.undo());
        }
        if (view == 3) {
            told.add(moss.restore());
        }
        if (view == 4) {
            told.add(moss.passAll());
        }
        tellAll(moss, told);
        return told.stream().mapToInt(Integer::intValue).toArray();
    }

    private static void tellAll(PeatBanks moss, List<Integer> told) {
        for (int what = 0; what < 15; what++) {
            told.add(moss.count(what));
        }
        for (int commoner = 0; commoner < 10; commoner++) {
            for (int what = 0; what < 8; what++) {
                told.add(moss.commoner(commoner, what));
            }
        }
        for (int plot = 0; plot < 20; plot++) {
            for (int what = 0; what < 3; what++) {
                told.add(moss.plot(plot, what));
            }
        }
        for (int row = 0; row < 60; row++) {
            told.add(moss.row(row, 0));
            told.add(moss.row(row, 2));
        }
        for (int row = 0; row < 10; row++) {
            told.add(moss.row(row, 1));
            told.add(moss.row(row, 3));
            told.add(moss.row(row, 4));
        }
        for (int rank = 0; rank < 3; rank++) {
            for (int what = 0; what < 4; what++) {
                told.add(moss.dispute(rank, what));
            }
        }
        told.add(moss.cart(0));
        told.add(moss.cart(1));
    }

    // ---- the mosses

    private static void write(PeatBanks moss, String text) {
        for (int at = 0; at < text.length(); at++) {
            moss.type(text.charAt(at));
        }
    }

    private static void times(PeatBanks moss, int days, int weather) {
        for (int day = 0; day < days; day++) {
            moss.pass(weather);
        }
    }

    private static PeatBanks newMoss() {
        return new PeatBanks();
    }

    /**
     * Row 0 is gone with a year, 1 is home, 2 is stacked and turned, 3 is stacked, 4 has the wetness 21, 5 is
     * turned and dry, 6 is turned and wet, the others are wet. Of four disputes two are open. Plot 6
     * is lent to 9, 19 is handed over to 2, 8 has no layer. The commoner 4 has used all days, 5 more than all.
     */
    private static PeatBanks busyMoss() {
        PeatBanks moss = new PeatBanks();
        moss.cut(0, 2);
        moss.endYear();
        moss.set(1, 1);
        moss.lend(6, 9);
        moss.handOver(19, 2);
        moss.cut(1, 1);
        moss.settle();
        moss.cut(2, 4);
        moss.cut(2, 4);
        moss.cut(7, 14);
        moss.cut(7, 14);
        moss.turn(1);
        moss.turn(2);
        moss.turn(5);
        times(moss, 5, 0);
        moss.stack(1);
        moss.stack(2);
        moss.stack(3);
        moss.pass(1);
        moss.pass(2);
        moss.cut(3, 6);
        moss.cut(5, 9);
        for (int layer = 0; layer < 6; layer++) {
            moss.cut(4, 8);
        }
        moss.setDays(5, 0);
        moss.keep();
        moss.set(0, 4);
        moss.turn(6);
        moss.setDays(8, 11);
        moss.lend(0, 9);
        moss.setDays(7, 20);
        write(moss, "s2c");
        return moss;
    }

    /** That the calls below are refused for the reasons that they name. */
    private static void busyMossIsAsItSays() {
        PeatBanks moss = busyMoss();
        int[][] told = {
            {moss.row(0, 0), UNKNOWN}, {moss.row(1, 0), UNKNOWN}, {moss.count(6), 1}, {moss.commoner(0, 2), 30},
            {moss.row(2, 3), 1}, {moss.row(2, 4), 1}, {moss.row(3, 3), 0}, {moss.row(3, 4), 1},
            {moss.row(4, 2), 21}, {moss.row(4, 4), 0}, {moss.row(5, 3), 1}, {moss.row(5, 5), 1},
            {moss.row(6, 2), 50}, {moss.row(6, 3), 1}, {moss.row(7, 3), 0}, {moss.count(9), 2},
            {moss.count(10), 4}, {moss.plot(6, 3), 1}, {moss.plot(19, 1), 2}, {moss.why(4, 9), 1},
            {moss.why(5, 10), 1}, {moss.commoner(5, 1), 1}, {moss.why(3, 8), 2}, {moss.why(1, 0), 4},
            {moss.count(13), 4}, {moss.count(11), 4}, {moss.count(12), 1}, {moss.count(1), 1},
        };
        for (int at = 0; at < told.length; at++) {
            if (told[at][0] != told[at][1]) {
                wrong++;
                System.out.println("the busy moss is not as it says: " + at + " is " + told[at][0]);
            }
        }
    }

    /** 60 rows lie, the text has 60 characters and ends too early, the history has four states. */
    private static PeatBanks fullMoss() {
        PeatBanks moss = new PeatBanks();
        moss.keep();
        for (int row = 0; row < 60; row++) {
            moss.cut(row / 6, row / 6 * 2);
        }
        moss.setDays(0, 20);
        moss.setDays(1, 20);
        write(moss, "s60s60s60s60s60s60s60s60s60s60s60s60s60s60s60s60s60s60s60ss1");
        return moss;
    }

    // ---- the calls

    private static void refused(String call, int due, ToIntFunction<PeatBanks> ask) {
        calls.add(new Refused(call, due, ask));
    }

    private static List<Refused> taken() {
        List<Refused> taken = calls;
        calls = new ArrayList<>();
        return taken;
    }

    private static void outOfRangeAnywhere() {
        for (int commoner : new int[] {LEAST, -1, 10, 11, MOST}) {
            refused("lend(0, " + commoner + ")", UNKNOWN, m -> m.lend(0, commoner));
            refused("handOver(0, " + commoner + ")", UNKNOWN, m -> m.handOver(0, commoner));
            refused("lend(20, " + commoner + ")", UNKNOWN, m -> m.lend(20, commoner));
            refused("handOver(20, " + commoner + ")", UNKNOWN, m -> m.handOver(20, commoner));
            refused("setDays(" + commoner + ", 6)", UNKNOWN, m -> m.setDays(commoner, 6));
            refused("setDays(" + commoner + ", 21)", UNKNOWN, m -> m.setDays(commoner, 21));
            refused("cut(" + commoner + ", 0)", UNKNOWN, m -> m.cut(commoner, 0));
            refused("cut(" + commoner + ", 20)", UNKNOWN, m -> m.cut(commoner, 20));
            refused("commoner(" + commoner + ", 0)", UNKNOWN, m -> m.commoner(commoner, 0));
            refused("commoner(" + commoner + ", 8)", UNKNOWN, m -> m.commoner(commoner, 8));
            refused("driest(" + commoner + ", 0)", UNKNOWN, m -> m.driest(commoner, 0));
            refused("driest(" + commoner + ", -1)", UNKNOWN, m -> m.driest(commoner, -1));
            refused("why(" + commoner + ", 0)", UNKNOWN, m -> m.why(commoner, 0));
            refused("why(" + commoner + ", 20)", UNKNOWN, m -> m.why(commoner, 20));
        }
        for (int plot : new int[] {LEAST, -1, 20, 21, MOST}) {
            refused("lend(" + plot + ", 0)", UNKNOWN, m -> m.lend(plot, 0));
            refused("handOver(" + plot + ", 0)", UNKNOWN, m -> m.handOver(plot, 0));
            refused("cut(0, " + plot + ")", UNKNOWN, m -> m.cut(0, plot));
            refused("plot(" + plot + ", 0)", UNKNOWN, m -> m.plot(plot, 0));
            refused("plot(" + plot + ", 4)", UNKNOWN, m -> m.plot(plot, 4));
            refused("why(0, " + plot + ")", UNKNOWN, m -> m.why(0, plot));
        }
        for (int row : new int[] {LEAST, -1, 60, 119, 120, 121, MOST}) {
            refused("turn(" + row + ")", UNKNOWN, m -> m.turn(row));
            refused("stack(" + row + ")", UNKNOWN, m -> m.stack(row));
            refused("row(" + row + ", 0)", UNKNOWN, m -> m.row(row, 0));
            refused("row(" + row + ", 7)", UNKNOWN, m -> m.row(row, 7));
        }
        for (int cart : new int[] {LEAST, -1, 2, 3, MOST}) {
            refused("cart(" + cart + ")", UNKNOWN, m -> m.cart(cart));
        }
        badValuesAnywhere();
    }

    private static void badValuesAnywhere() {
        for (int days : new int[] {LEAST, -1, 21, MOST}) {
            refused("setDays(9, " + days + ")", BAD_VALUE, m -> m.setDays(9, days));
        }
        for (int which : new int[] {LEAST, -1, 2, MOST}) {
            refused("set(" + which + ", 1)", BAD_VALUE, m -> m.set(which, 1));
            refused("set(" + which + ", 9)", BAD_VALUE, m -> m.set(which, 9));
        }
        for (int rows : new int[] {LEAST, -1, 0, 7, MOST}) {
            refused("set(0, " + rows + ")", BAD_VALUE, m -> m.set(0, rows));
        }
        for (int stakes : new int[] {LEAST, -1, 2, MOST}) {
            refused("set(1, " + stakes + ")", BAD_VALUE, m -> m.set(1, stakes));
        }
        for (int weather : new int[] {LEAST, -1, 3, MOST}) {
            refused("pass(" + weather + ")", BAD_VALUE, m -> m.pass(weather));
            refused("would(1, " + weather + ")", BAD_VALUE, m -> m.would(1, weather));
        }
        for (int days : new int[] {LEAST, -1, 0, 61, MOST}) {
            refused("would(" + days + ", 0)", BAD_VALUE, m -> m.would(days, 0));
            refused("would(" + days + ", 3)", BAD_VALUE, m -> m.would(days, 3));
        }
        for (int rank : new int[] {LEAST, -1}) {
            refused("driest(0, " + rank + ")", BAD_VALUE, m -> m.driest(0, rank));
            refused("dispute(" + rank + ", 0)", BAD_VALUE, m -> m.dispute(rank, 0));
            refused("dispute(" + rank + ", 4)", BAD_VALUE, m -> m.dispute(rank, 4));
        }
        for (int what : new int[] {LEAST, -1, 15, MOST}) {
            refused("commoner(0, " + what + ")", BAD_VALUE, m -> m.commoner(0, what));
            refused("plot(0, " + what + ")", BAD_VALUE, m -> m.plot(0, what));
            refused("dispute(0, " + what + ")", BAD_VALUE, m -> m.dispute(0, what));
            refused("dispute(120, " + what + ")", BAD_VALUE, m -> m.dispute(120, what));
            refused("count(" + what + ")", BAD_VALUE, m -> m.count(what));
        }
        refused("commoner(0, 8)", BAD_VALUE, m -> m.commoner(0, 8));
        refused("plot(0, 4)", BAD_VALUE, m -> m.plot(0, 4));
        refused("dispute(0, 4)", BAD_VALUE, m -> m.dispute(0, 4));
        refused("a great rank of driest", NONE, m -> m.driest(0, MOST));
        refused("a great rank of dispute", NONE, m -> m.dispute(MOST, 0));
    }

    private static List<Refused> onNewMoss() {
        outOfRangeAnywhere();
        refused("lend(0, 0) to who has it", NONE, m -> m.lend(0, 0));
        refused("handOver(19, 9) to the owner", NONE, m -> m.handOver(19, 9));
        refused("setDays(0, 6) as it is", NONE, m -> m.setDays(0, 6));
        refused("set(0, 3) as it is", NONE, m -> m.set(0, 3));
        refused("set(1, 0) as it is", NONE, m -> m.set(1, 0));
        refused("cut(0, 3) without the right", NOT_POSSIBLE, m -> m.cut(0, 3));
        refused("turn(0) where none lies", UNKNOWN, m -> m.turn(0));
        refused("stack(0) where none lies", UNKNOWN, m -> m.stack(0));
        refused("row(0, 0) where none lies", UNKNOWN, m -> m.row(0, 0));
        refused("row(0, 7) where none lies", UNKNOWN, m -> m.row(0, 7));
        refused("passAll() of an empty text", -100, PeatBanks::passAll);
        refused("settle() where none is open", NONE, PeatBanks::settle);
        refused("undo() of an empty history", NONE, PeatBanks::undo);
        refused("restore() of no snapshot", NONE, PeatBanks::restore);
        refused("driest(0, 0) of no row", NONE, m -> m.driest(0, 0));
        refused("dispute(0, 0) of none", NONE, m -> m.dispute(0, 0));
        return taken();
    }

    private static List<Refused> onBusyMoss() {
        outOfRangeAnywhere();
        refused("lend(6, 9) again", NONE, m -> m.lend(6, 9));
        refused("lend(19, 2) to who was given it", NONE, m -> m.lend(19, 2));
        refused("handOver(6, 3) of a lent plot", NONE, m -> m.handOver(6, 3));
        refused("handOver(19, 2) again", NONE, m -> m.handOver(19, 2));
        refused("setDays(5, 0) again", NONE, m -> m.setDays(5, 0));
        refused("set(0, 4) again", NONE, m -> m.set(0, 4));
        refused("set(1, 1) again", NONE, m -> m.set(1, 1));
        refused("cut(4, 9) with all days used", NOT_POSSIBLE, m -> m.cut(4, 9));
        refused("cut(5, 10) with more days used than there are", NOT_POSSIBLE, m -> m.cut(5, 10));
        refused("cut(3, 8) of no layer, beside", NOT_POSSIBLE, m -> m.cut(3, 8));
        refused("cut(1, 0) two beside", NOT_POSSIBLE, m -> m.cut(1, 0));
        refused("turn(0) of a row that is gone", UNKNOWN, m -> m.turn(0));
        refused("turn(1) of a row at home", UNKNOWN, m -> m.turn(1));
        refused("turn(2) stacked and turned", NOT_POSSIBLE, m -> m.turn(2));
        refused("turn(3) stacked", NOT_POSSIBLE, m -> m.turn(3));
        refused("turn(5) turned and dry", NONE, m -> m.turn(5));
        refused("turn(6) turned", NONE, m -> m.turn(6));
        refused("stack(0) of a row that is gone", UNKNOWN, m -> m.stack(0));
        refused("stack(1) of a row at home", UNKNOWN, m -> m.stack(1));
        refused("stack(2) again", NONE, m -> m.stack(2));
        refused("stack(3) again", NONE, m -> m.stack(3));
        refused("stack(4) of 21", NOT_POSSIBLE, m -> m.stack(4));
        refused("stack(6) of a wet row", NOT_POSSIBLE, m -> m.stack(6));
        refused("row(0, 2) of a row that is gone", UNKNOWN, m -> m.row(0, 2));
        refused("row(1, 2) of a row at home", UNKNOWN, m -> m.row(1, 2));
        refused("row(1, 7) of a row at home", UNKNOWN, m -> m.row(1, 7));
        refused("row(2, 7)", BAD_VALUE, m -> m.row(2, 7));
        refused("row(2, -1)", BAD_VALUE, m -> m.row(2, -1));
        refused("row(2, least)", BAD_VALUE, m -> m.row(2, LEAST));
        refused("row(2, most)", BAD_VALUE, m -> m.row(2, MOST));
        refused("driest(0, 0) of no row", NONE, m -> m.driest(0, 0));
        refused("driest(2, 2) of two rows", NONE, m -> m.driest(2, 2));
        refused("dispute(2, 0) of two", NONE, m -> m.dispute(2, 0));
        refused("dispute(2, 3) of two", NONE, m -> m.dispute(2, 3));
        return taken();
    }

    private static List<Refused> onFullMoss() {
        outOfRangeAnywhere();
        refused("cut(0, 1) of a 61st row", NOT_POSSIBLE, m -> m.cut(0, 1));
        refused("cut(2, 5) with all days used", NOT_POSSIBLE, m -> m.cut(2, 5));
        refused("stack(0) of a wet row", NOT_POSSIBLE, m -> m.stack(0));
        refused("row(59, 7)", BAD_VALUE, m -> m.row(59, 7));
        refused("driest(0, 6) of six rows", NONE, m -> m.driest(0, 6));
        refused("settle() where none is open", NONE, PeatBanks::settle);
        refused("passAll() of a text that ends too early", -160, PeatBanks::passAll);
        for (char character : new char[] {'s', '0', '1', 'x', ' ', (char) 0, (char) 65535}) {
            refused("type(" + (int) character + ") behind 60", FULL, m -> m.type(character));
        }
        return taken();
    }
}
