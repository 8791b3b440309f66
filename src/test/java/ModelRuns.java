import java.util.ArrayDeque;
import java.util.ArrayList;
import java.util.Comparator;
import java.util.List;
import java.util.TreeMap;

/**
 * Long runs of calls, drawn by fixed numbers, on the class and on a plain model of the document that is
 * held in another way (lists, maps and copies); each answer and, now and then, all that is told is compared.
 */
public final class ModelRuns {
    private static final int RUNS = 400;
    private static final int CALLS = 512;

    private long seed;
    private int wrong = 0;
    private final int[] answered = new int[25];

    public static void main(String[] args) {
        ModelRuns runs = new ModelRuns();
        for (int run = 0; run < RUNS && runs.wrong < 20; run++) {
            runs.run(run);
        }
        for (int call = 0; call < runs.answered.length; call++) {
            if (runs.answered[call] < 100) {
                runs.wrong++;
                System.out.println("call " + call + " was answered without an error " + runs.answered[call] + " times");
            }
        }
        System.out.println(runs.wrong == 0 ? "all answers are as due" : runs.wrong + " answers are not as due");
        if (runs.wrong != 0) {
            System.exit(1);
        }
    }

    private int draw(int bound) {
        seed = seed * 6364136223846793005L + 1442695040888963407L;
        return (int) ((seed >>> 33) % bound);
    }

    /** Mostly within 0 to most, sometimes beside or far away. */
    private int around(int most) {
        int kind = draw(40);
        if (kind == 0) {
            return -1;
        }
        if (kind == 1) {
            return most + 1;
        }
        if (kind == 2) {
            return draw(2) == 0 ? Integer.MIN_VALUE : Integer.MAX_VALUE;
        }
        return draw(most + 1);
    }

    private void run(int number) {
        seed = number * 7919L + 17;
        PeatBanks moss = new PeatBanks();
        Model model = new Model();
        int mood = number % 4;
        StringBuilder told = new StringBuilder();
        for (int call = 0; call < CALLS; call++) {
            int which = pick(mood);
            int[] arguments = arguments(which, model);
            int due = model.answer(which, arguments[0], arguments[1]);
            int got = ask(moss, which, arguments[0], arguments[1]);
            told.append(which).append('(').append(arguments[0]).append(", ").append(arguments[1]).append(") ");
            if (due >= 0) {
                answered[which]++;
            }
            if (got != due) {
                wrong++;
                System.out.println("run " + number + ": " + told + "answered " + got + ", due is " + due);
                return;
            }
            if (call % 16 == 0 && !sameAll(moss, model)) {
                wrong++;
                System.out.println("run " + number + ": " + told + "and then what is told differs");
                return;
            }
        }
    }

    /** 0 to 15 are the calls that may change something, 16 to 24 what is told. */
    private int pick(int mood) {
        int kind = draw(100);
        if (kind < 22 + mood * 6) {
            return 4;
        }
        if (kind < 50) {
            return 6 + draw(2);
        }
        if (kind < 62) {
            return 5;
        }
        return draw(25);
    }

    private int[] arguments(int which, Model model) {
        int rows = Math.max(0, model.state.rowsSoFar - 1);
        switch (which) {
            case 0: case 1:
                return new int[] {around(19), around(9)};
            case 2:
                return new int[] {around(9), draw(3) == 0 ? around(20) : 20};
            case 3: {
                int setting = around(1);
                return new int[] {setting, around(setting == 0 ? 6 : 1)};
            }
            case 4: case 20: {
                int commoner = around(9);
                return new int[] {commoner, draw(8) == 0 ? around(19) : commoner * 2 + draw(4) - 1};
            }
            case 5: case 6:
                return new int[] {around(rows), 0};
            case 7:
                return new int[] {draw(3) == 0 ? around(2) : draw(2), 0};
            case 8: case 9: case 10: case 12: case 13: case 14: case 15:
                return new int[] {0, 0};
            case 11:
                return new int[] {"ssccrr1234567890x".charAt(draw(17)), 0};
            case 16:
                return new int[] {around(9), around(7)};
            case 17:
                return new int[] {around(19), around(3)};
            case 18:
                return new int[] {around(rows), around(6)};
            case 19:
                return new int[] {around(9), around(8)};
            case 21:
                return new int[] {around(4), around(3)};
            case 22:
                return new int[] {around(1), 0};
            case 23:
                return new int[] {draw(3) == 0 ? around(60) : 1 + draw(12), around(2)};
            default:
                return new int[] {around(14), 0};
        }
    }

    private static int ask(PeatBanks moss, int which, int a, int b) {
        switch (which) {
            case 0: return moss.lend(a, b);
            case 1: return moss.handOver(a, b);
            case 2: return moss.setDays(a, b);
            case 3: return moss.set(a, b);
            case 4: return moss.cut(a, b);
            case 5: return moss.turn(a);
            case 6: return moss.stack(a);
            case 7: return moss.pass(a);
            case 8: return moss.passAll();
            case 9: return moss.settle();
            case 10: return moss.endYear();
            case 11: return moss.type((char) a);
            case 12: return moss.clearText();
            case 13: return moss.undo();
            case 14: return moss.keep();
            case 15: return moss.restore();
            case 16: return moss.commoner(a, b);
            case 17: return moss.plot(a, b);
            case 18: return moss.row(a, b);
            case 19: return moss.driest(a, b);
            case 20: return moss.why(a, b);
            case 21: return moss.dispute(a, b);
            case 22: return moss.cart(a);
            case 23: return moss.would(a, b);
            default: return moss.count(a);
        }
    }

    private static boolean sameAll(PeatBanks moss, Model model) {
        for (int which = 16; which < 25; which++) {
            for (int a = -1; a <= 20; a++) {
                for (int b = -1; b <= 20; b++) {
                    if (which == 23 && b > 0) {
                        break;
                    }
                    if (ask(moss, which, a, b) != model.answer(which, a, b)) {
                        System.out.println("told " + which + "(" + a + ", " + b + ")");
                        return false;
                    }
                }
            }
        }
        return true;
    }

    private record Row(int number, int owner, int plot, int wetness, boolean turned, boolean stacked) {
        Row with(int newOwner, int newWetness, boolean nowTurned, boolean nowStacked) {
            return new Row(number, newOwner, plot, newWetness, nowTurned, nowStacked);
        }
    }

    private record Dispute(int cutter, int wronged, int row, int plot) { }

    private static final class State {
        int[] layers = new int[20];
        int[] owners = new int[20];
        int[] rights = new int[20];
        int[] days = new int[10];
        int[] used = new int[10];
        int[] hearths = new int[10];
        int[] carts = {0, 5};
        int[] settings = {3, 0};
        TreeMap<Integer, Row> rows = new TreeMap<>();
        List<Dispute> open = new ArrayList<>();
        int rowsSoFar, disputesSoFar, home, day, years;

        State copy() {
            State copy = new State();
            copy.layers = layers.clone();
            copy.owners = owners.clone();
            copy.rights = rights.clone();
            copy.days = days.clone();
            copy.used = used.clone();
            copy.hearths = hearths.clone();
            copy.carts = carts.clone();
            copy.settings = settings.clone();
            copy.rows = new TreeMap<>(rows);
            copy.open = new ArrayList<>(open);
            copy.rowsSoFar = rowsSoFar;
            copy.disputesSoFar = disputesSoFar;
            copy.home = home;
            copy.day = day;
            copy.years = years;
            return copy;
        }

        List<Row> driest(int commoner, boolean stackedOnly) {
            List<Row> own = new ArrayList<>();
            for (Row row : rows.values()) {
                if (row.owner == commoner && (row.stacked || !stackedOnly)) {
                    own.add(row);
                }
            }
            own.sort(Comparator.comparingInt(Row::wetness).thenComparingInt(Row::number));
            return own;
        }

        int dayOf(int weather) {
            rows.replaceAll((number, row) -> row.stacked ? row : row.with(row.owner,
                    Math.min(60, Math.max(0, row.wetness + change(weather, row))), row.turned, false));
            int before = home;
            for (int cart = 0; cart < 2; cart++) {
                List<Row> waiting = driest(carts[cart], true);
                for (Row row : waiting.subList(0, Math.min(settings[0], waiting.size()))) {
                    hearths[row.owner] += Math.max(0, 40 - row.wetness);
                    rows.remove(row.number);
                    home++;
                }
                carts[cart] = carts[cart] == 9 ? 0 : carts[cart] + 1;
            }
            day++;
            return home - before;
        }

        private static int change(int weather, Row row) {
            int more = row.turned ? 2 : 0;
            return weather == 2 ? 4 : weather == 1 ? -3 - more : -6 - more;
        }
    }

    private static final class Model {
        State state = new State();
        State snapshot = null;
        final ArrayDeque<State> history = new ArrayDeque<>();
        String text = "";

        Model() {
            for (int plot = 0; plot < 20; plot++) {
                state.layers[plot] = 6;
                state.owners[plot] = plot / 2;
                state.rights[plot] = plot / 2;
            }
            java.util.Arrays.fill(state.days, 6);
        }

        private static boolean in(int value, int least, int most) {
            return least <= value && value <= most;
        }

        /** Acts work on the state at once; where the answer is no error and not NONE, the copy is kept. */
        int answer(int which, int a, int b) {
            boolean isAct = which <= 10 || which == 15;
            State before = isAct ? state.copy() : null;
            int answer = which <= 10 ? act(which, a, b) : which <= 15 ? other(which, a) : tell(which, a, b);
            if (isAct && answer >= 0) {
                history.addLast(before);
                if (history.size() > 4) {
                    history.removeFirst();
                }
            }
            return answer;
        }

        private int act(int which, int a, int b) {
            State s = state;
            switch (which) {
                case 0: {
                    if (!in(a, 0, 19) || !in(b, 0, 9)) return -1;
                    int had = s.rights[a];
                    s.rights[a] = b;
                    return had == b ? -5 : had;
                }
                case 1: {
                    if (!in(a, 0, 19) || !in(b, 0, 9)) return -1;
                    int had = s.owners[a];
                    if (had == b) return -5;
                    s.owners[a] = b;
                    s.rights[a] = b;
                    return had;
                }
                case 2: {
                    if (!in(a, 0, 9)) return -1;
                    if (!in(b, 0, 20)) return -2;
                    int had = s.days[a];
                    s.days[a] = b;
                    return had == b ? -5 : had;
                }
                case 3: {
                    if (!in(a, 0, 1) || !(a == 0 ? in(b, 1, 6) : in(b, 0, 1))) return -2;
                    int had = s.settings[a];
                    s.settings[a] = b;
                    return had == b ? -5 : had;
                }
                case 4:
                    return cut(a, b);
                case 5: {
                    Row row = s.rows.get(a);
                    if (row == null) return -1;
                    if (row.stacked) return -4;
                    if (row.turned) return -5;
                    s.rows.put(a, row.with(row.owner, row.wetness, true, false));
                    return row.wetness;
                }
                case 6: {
                    Row row = s.rows.get(a);
                    if (row == null) return -1;
                    if (row.wetness > 20) return -4;
                    if (row.stacked) return -5;
                    s.rows.put(a, row.with(row.owner, row.wetness, row.turned, true));
                    return s.driest(row.owner, true).size();
                }
                case 7:
                    return in(a, 0, 2) ? s.dayOf(a) : -2;
                case 8:
                    return passAll();
                case 9:
                    return settle();
                default: {
                    int gone = s.rows.size();
                    s.rows.clear();
                    s.open.clear();
                    s.rights = s.owners.clone();
                    s.used = new int[10];
                    s.day = 0;
                    s.years++;
                    return gone;
                }
            }
        }

        private int cut(int commoner, int plot) {
            State s = state;
            if (!in(commoner, 0, 9) || !in(plot, 0, 19)) return -1;
            if (why(commoner, plot) != 0) return -4;
            int row = s.rowsSoFar++;
            s.rows.put(row, new Row(row, commoner, plot, 50, false, false));
            s.layers[plot]--;
            s.used[commoner]++;
            if (s.rights[plot] != commoner) {
                s.open.add(new Dispute(commoner, s.rights[plot], row, plot));
                s.disputesSoFar++;
            }
            return row;
        }

        private int why(int commoner, int plot) {
            State s = state;
            if (s.used[commoner] >= s.days[commoner]) return 1;
            if (s.layers[plot] == 0) return 2;
            if (s.rows.size() == 60) return 3;
            for (int near = Math.max(0, plot - 1); near <= Math.min(19, plot + 1); near++) {
                if (s.rights[near] == commoner) return 0;
            }
            return 4;
        }

        private int settle() {
            State s = state;
            if (s.open.isEmpty()) return -5;
            Dispute dispute = s.open.remove(0);
            if (s.settings[1] == 0) {
                if (s.used[dispute.cutter] < s.days[dispute.cutter]) s.used[dispute.cutter]++;
                return 10;
            }
            Row row = s.rows.get(dispute.row);
            if (row != null) {
                s.rows.put(row.number, row.with(dispute.wronged, row.wetness, row.turned, row.stacked));
            } else {
                int peats = Math.min(20, s.hearths[dispute.cutter]);
                s.hearths[dispute.cutter] -= peats;
                s.hearths[dispute.wronged] += peats;
            }
            return dispute.wronged;
        }

        private static final String NUMBER = "([2-9]|[1-5][0-9]|60)";

        private int passAll() {
            String groups = "([scr]" + NUMBER + "?)";
            if (!text.matches(groups + "+")) {
                int good = 0;
                while (good < text.length()
                        && text.substring(0, good + 1).matches(groups + "*([scr]1)?")) {
                    good++;
                }
                return -100 - good;
            }
            int days = 0;
            for (String group : text.split("(?=[scr])")) {
                int number = group.length() == 1 ? 1 : Integer.parseInt(group.substring(1));
                for (int day = 0; day < number; day++) {
                    state.dayOf("scr".indexOf(group.charAt(0)));
                }
                days += number;
            }
            return days;
        }

        private int other(int which, int a) {
            switch (which) {
                case 11:
                    if (text.length() == 60) return -3;
                    text += (char) a;
                    return text.length();
                case 12: {
                    int had = text.length();
                    text = "";
                    return had;
                }
                case 13:
                    if (history.isEmpty()) return -5;
                    state = history.removeLast();
                    return history.size();
                case 14:
                    snapshot = state.copy();
                    return state.rows.size();
                default:
                    if (snapshot == null) return -5;
                    state = snapshot.copy();
                    return state.rows.size();
            }
        }

        private int tell(int which, int a, int b) {
            State s = state;
            switch (which) {
                case 16:
                    return in(a, 0, 9) ? commoner(a, b) : -1;
                case 17:
                    if (!in(a, 0, 19)) return -1;
                    return !in(b, 0, 3) ? -2 : new int[] {s.layers[a], s.owners[a], s.rights[a],
                        s.owners[a] == s.rights[a] ? 0 : 1}[b];
                case 18: {
                    Row row = s.rows.get(a);
                    if (row == null) return -1;
                    return !in(b, 0, 6) ? -2 : new int[] {row.owner, row.plot, row.wetness,
                        row.turned ? 1 : 0, row.stacked ? 1 : 0, row.wetness <= 20 ? 1 : 0,
                        Math.max(0, 40 - row.wetness)}[b];
                }
                case 19: {
                    if (!in(a, 0, 9)) return -1;
                    if (b < 0) return -2;
                    List<Row> own = s.driest(a, false);
                    return b < own.size() ? own.get(b).number : -5;
                }
                case 20:
                    return in(a, 0, 9) && in(b, 0, 19) ? why(a, b) : -1;
                case 21: {
                    if (a < 0 || !in(b, 0, 3)) return -2;
                    if (a >= s.open.size()) return -5;
                    Dispute dispute = s.open.get(a);
                    return new int[] {dispute.cutter, dispute.wronged, dispute.row, dispute.plot}[b];
                }
                case 22:
                    return in(a, 0, 1) ? s.carts[a] : -1;
                case 23: {
                    if (!in(a, 1, 60) || !in(b, 0, 2)) return -2;
                    State trial = s.copy();
                    int home = 0;
                    for (int day = 0; day < a; day++) {
                        home += trial.dayOf(b);
                    }
                    return home;
                }
                default:
                    return count(a);
            }
        }

        private int commoner(int commoner, int what) {
            State s = state;
            switch (what) {
                case 0: return s.days[commoner];
                case 1: return s.used[commoner];
                case 2: return s.hearths[commoner];
                case 3: return s.driest(commoner, false).size();
                case 4: return s.driest(commoner, true).size();
                case 5: return (int) java.util.Arrays.stream(s.owners).filter(x -> x == commoner).count();
                case 6: return (int) java.util.Arrays.stream(s.rights).filter(x -> x == commoner).count();
                case 7: return (int) s.open.stream()
                    .filter(d -> d.cutter == commoner || d.wronged == commoner).count();
                default: return -2;
            }
        }

        private int count(int what) {
            State s = state;
            switch (what) {
                case 0: return s.day;
                case 1: return s.years;
                case 2: return s.rows.size();
                case 3: return s.rowsSoFar;
                case 4: return (int) s.rows.values().stream().filter(Row::stacked).count();
                case 5: return (int) s.rows.values().stream().filter(row -> row.wetness <= 20).count();
                case 6: return s.home;
                case 7: return java.util.Arrays.stream(s.hearths).sum();
                case 8: return java.util.Arrays.stream(s.layers).sum();
                case 9: return s.open.size();
                case 10: return s.disputesSoFar;
                case 11: return s.settings[0];
                case 12: return s.settings[1];
                case 13: return history.size();
                case 14: return text.length();
                default: return -2;
            }
        }
    }
}
