import java.util.ArrayList;
import java.util.Comparator;
import java.util.List;
import java.util.Optional;
import java.util.regex.Matcher;
import java.util.regex.Pattern;

/** The document in its plainest form, written without a look at the program, to compare the two by random runs. */
final class Model {
    static final class Failure extends Exception {
        private static final long serialVersionUID = 1L;
        final int code;

        Failure(int code) {
            super("code " + code);
            this.code = code;
        }
    }

    private static final class Grower {
        int quota = 100, brought, crushed, lost, paid;

        Grower copy() {
            Grower g = new Grower();
            g.quota = quota;
            g.brought = brought;
            g.crushed = crushed;
            g.lost = lost;
            g.paid = paid;
            return g;
        }
    }

    private static final class Field {
        int number, grower, first, purity, burnt, lost, crushed, brought;

        Field copy() {
            Field f = new Field();
            f.number = number;
            f.grower = grower;
            f.first = first;
            f.purity = purity;
            f.burnt = burnt;
            f.lost = lost;
            f.crushed = crushed;
            f.brought = brought;
            return f;
        }

        int on() {
            return first - lost - brought;
        }

        int how(int now) {
            if (burnt > now) return 0;
            return on() != 0 ? 1 : lost != 0 ? 3 : 2;
        }
    }

    private record Load(int field, int tonnes, int day) {
    }

    private record Stop(int first, int last) {
    }

    private static final class State {
        final int[] settings = {4, 10, 60, 100, 8, 5, 30};
        final List<Grower> growers = new ArrayList<>();
        final List<Field> fields = new ArrayList<>();
        final List<Stop> stops = new ArrayList<>();
        final List<Load> yard = new ArrayList<>();
        int now, crushed, sugar, lost, paid, loads, stoppedDays;

        static State fresh() {
            State s = new State();
            for (int i = 0; i < 6; i++) s.growers.add(new Grower());
            return s;
        }

        State copy() {
            State s = new State();
            for (int i = 0; i < settings.length; i++) s.settings[i] = settings[i];
            for (Grower g : growers) s.growers.add(g.copy());
            for (Field f : fields) s.fields.add(f.copy());
            s.stops.addAll(stops);
            s.yard.addAll(yard);
            s.now = now;
            s.crushed = crushed;
            s.sugar = sugar;
            s.lost = lost;
            s.paid = paid;
            s.loads = loads;
            s.stoppedDays = stoppedDays;
            return s;
        }

        int inYard() {
            return yard.stream().mapToInt(Load::tonnes).sum();
        }

        int purity(Field f) {
            if (now <= f.burnt) return f.purity;
            return Math.max(f.purity - settings[4] * (now - f.burnt), 0);
        }

        Optional<Field> nextField() {
            if (inYard() >= settings[3]) return Optional.empty();
            return fields.stream()
                .filter(f -> f.how(now) == 1 && growers.get(f.grower).quota > 0)
                .min(Comparator.comparingInt((Field f) -> f.burnt)
                    .thenComparingInt(f -> -growers.get(f.grower).quota)
                    .thenComparingInt(f -> f.number));
        }

        void day(boolean supposedStop) {
            for (Field f : fields) {
                if (f.how(now) == 1 && now - f.burnt > settings[5]) {
                    lost += f.on();
                    growers.get(f.grower).lost += f.on();
                    f.lost = f.on();
                }
            }
            for (int truck = 1; truck <= settings[0]; truck++) {
                Optional<Field> next = nextField();
                if (next.isEmpty()) break;
                Field f = next.get();
                Grower g = growers.get(f.grower);
                int tonnes = settings[1];
                tonnes = Math.min(tonnes, f.on());
                tonnes = Math.min(tonnes, g.quota);
                tonnes = Math.min(tonnes, settings[3] - inYard());
                f.brought += tonnes;
                g.brought += tonnes;
                g.quota -= tonnes;
                yard.add(new Load(f.number, tonnes, now));
                loads++;
            }
            boolean stopped = supposedStop;
            for (Stop s : stops) stopped |= s.first <= now && now <= s.last;
            if (stopped) stoppedDays++;
            else crush();
            now++;
        }

        private void crush() {
            int rest = settings[2];
            while (rest > 0 && !yard.isEmpty()) {
                Load load = yard.remove(0);
                Field f = fields.get(load.field);
                int part = Math.min(rest, load.tonnes);
                if (part < load.tonnes) yard.add(0, new Load(load.field, load.tonnes - part, load.day));
                rest -= part;
                f.crushed += part;
                crushed += part;
                sugar += Math.floorDiv(part * purity(f), 100);
                int pay = Math.floorDiv(part * purity(f) * settings[6], 100);
                paid += pay;
                growers.get(f.grower).crushed += part;
                growers.get(f.grower).paid += pay;
            }
        }
    }

    private static final int[][] RANGES = {{0, 20}, {1, 30}, {1, 200}, {0, 400}, {0, 100}, {1, 20}, {0, 999}};
    private static final String NUMBER = "(0|[1-9][0-9]{0,3})";
    private static final String ORDER = "(?:f([0-5]):" + NUMBER + "%" + NUMBER + "@" + NUMBER + "|q([0-5])=" + NUMBER
        + "|l([0-5])>([0-5])=" + NUMBER + "|s" + NUMBER + "-" + NUMBER + "|d" + NUMBER + ")";
    private static final Pattern ONE = Pattern.compile(ORDER);
    private static final Pattern TEXT = Pattern.compile(ORDER + "(?:;" + ORDER + ")*");

    private State state = State.fresh();
    private final List<State> history = new ArrayList<>();
    private final State[] slots = new State[2];
    private String pad = "";

    private interface Change {
        int on(State s) throws Failure;
    }

    private int change(Change change) {
        State before = state.copy();
        try {
            int answer = change.on(state);
            history.add(before);
            if (history.size() > 6) history.remove(0);
            return answer;
        } catch (Failure failure) {
            state = before;
            return failure.code;
        }
    }

    private static void need(boolean so, int code) throws Failure {
        if (!so) throw new Failure(code);
    }

    private static boolean in(long value, long least, long most) {
        return least <= value && value <= most;
    }

    int set(int setting, int value) {
        return change(s -> {
            need(in(setting, 0, 6) && in(value, RANGES[setting][0], RANGES[setting][1]), -2);
            int old = s.settings[setting];
            s.settings[setting] = value;
            return old;
        });
    }

    private static int doQuota(State s, int grower, int tonnes) throws Failure {
        need(in(grower, 0, 5), -1);
        need(in(tonnes, 0, 9999), -2);
        int old = s.growers.get(grower).quota;
        s.growers.get(grower).quota = tonnes;
        return old;
    }

    int quota(int grower, int tonnes) {
        return change(s -> doQuota(s, grower, tonnes));
    }

    private static int doLend(State s, int grower, int other, int tonnes) throws Failure {
        need(in(grower, 0, 5) && in(other, 0, 5), -1);
        need(tonnes >= 1 && grower != other, -2);
        Grower from = s.growers.get(grower);
        Grower to = s.growers.get(other);
        need(from.quota >= tonnes && (long) to.quota + tonnes <= 9999, -5);
        from.quota -= tonnes;
        to.quota += tonnes;
        return from.quota;
    }

    int lend(int grower, int other, int tonnes) {
        return change(s -> doLend(s, grower, other, tonnes));
    }

    private static int doField(State s, int grower, int tonnes, int purity, int burnt) throws Failure {
        need(in(grower, 0, 5), -1);
        need(in(tonnes, 1, 300) && in(purity, 1, 100) && in(burnt, s.now, 999), -2);
        need(s.fields.size() < 30, -4);
        Field f = new Field();
        f.number = s.fields.size();
        f.grower = grower;
        f.first = tonnes;
        f.purity = purity;
        f.burnt = burnt;
        s.fields.add(f);
        return f.number;
    }

    int field(int grower, int tonnes, int purity, int burnt) {
        return change(s -> doField(s, grower, tonnes, purity, burnt));
    }

    private static int doStop(State s, int first, int last) throws Failure {
        need(in(first, 0, 999) && in(last, first, 999), -2);
        need(s.stops.size() < 5, -4);
        s.stops.add(new Stop(first, last));
        return s.stops.size() - 1;
    }

    int stop(int first, int last) {
        return change(s -> doStop(s, first, last));
    }

    int dropStop(int stop) {
        return change(s -> {
            need(in(stop, 0, s.stops.size() - 1), -1);
            s.stops.remove(stop);
            return s.stops.size();
        });
    }

    private static int doPass(State s, int days) throws Failure {
        need(in(days, 1, 99), -2);
        need(s.now + days <= 1000, -5);
        for (int i = 0; i < days; i++) s.day(false);
        return s.now;
    }

    int pass(int days) {
        return change(s -> doPass(s, days));
    }

    int ofField(int field, int what) {
        if (!in(field, 0, state.fields.size() - 1)) return -1;
        if (!in(what, 0, 9)) return -2;
        Field f = state.fields.get(field);
        int[] all = {f.grower, f.first, f.purity, f.burnt, f.how(state.now), f.on(), f.brought - f.crushed, f.crushed,
            f.lost, state.purity(f)};
        return all[what];
    }

    int ofGrower(int grower, int what) {
        if (!in(grower, 0, 5)) return -1;
        if (!in(what, 0, 5)) return -2;
        Grower g = state.growers.get(grower);
        int burnt = 0;
        for (Field f : state.fields) if (f.grower == grower && f.burnt <= state.now) burnt += f.on();
        return new int[] {g.quota, g.brought, g.crushed, g.lost, g.paid, burnt}[what];
    }

    int load(int place, int what) {
        if (!in(place, 0, state.yard.size() - 1)) return -1;
        if (!in(what, 0, 2)) return -2;
        Load load = state.yard.get(place);
        return new int[] {load.field, load.tonnes, load.day}[what];
    }

    int count(int what) {
        if (!in(what, 0, 19)) return -2;
        int[] t = state.settings;
        return new int[] {state.now, state.fields.size(), state.stops.size(), state.inYard(), state.yard.size(),
            state.crushed, state.sugar, state.lost, state.paid, state.loads, state.stoppedDays, t[0], t[1], t[2], t[3],
            t[4], t[5], t[6], pad.length(), history.size()}[what];
    }

    long fields(int how) {
        if (!in(how, 0, 3)) return -2;
        long set = 0;
        for (Field f : state.fields) if (f.how(state.now) == how) set += (long) Math.pow(2, f.number);
        return set;
    }

    int next() {
        return state.nextField().map(f -> f.number).orElse(-6);
    }

    private State after(int days, int stopped, int trucks) {
        State s = state.copy();
        s.settings[0] = trucks;
        for (int i = 0; i < days; i++) s.day(i < stopped);
        return s;
    }

    int then(int days, int what) {
        if (!in(days, 1, 300) || !in(what, 0, 2)) return -2;
        State s = after(days, 0, state.settings[0]);
        return new int[] {s.lost - state.lost, s.sugar - state.sugar, s.paid - state.paid}[what];
    }

    int leastTrucks(int days) {
        if (!in(days, 1, 300)) return -2;
        int least = -6;
        for (int trucks = 20; trucks >= 0; trucks--) if (after(days, 0, trucks).lost == state.lost) least = trucks;
        return least;
    }

    int stopCosts(int days, int stopped) {
        if (!in(days, 1, 300) || !in(stopped, 0, days)) return -2;
        return 100000 + after(days, 0, state.settings[0]).sugar - after(days, stopped, state.settings[0]).sugar;
    }

    int put(long characters) {
        String bytes = "";
        for (int i = 7; i >= 0; i--) bytes += (char) (characters >> 8 * i & 255);
        String text = bytes.replaceFirst("^\0*", "");
        if (text.isEmpty() || !text.matches("[!-~]+")) return -2;
        if (pad.length() + text.length() > 80) return -4;
        pad += text;
        return pad.length();
    }

    int wipe() {
        int length = pad.length();
        pad = "";
        return length;
    }

    /** Where the first characters can still be the beginning of a text, the matcher meets their end. */
    int fault() {
        if (TEXT.matcher(pad).matches()) return -6;
        for (int i = 1; i <= pad.length(); i++) {
            Matcher m = TEXT.matcher(pad.substring(0, i));
            if (!m.matches() && !m.hitEnd()) return i - 1;
        }
        return pad.length();
    }

    private static int order(State s, String order) throws Failure {
        Matcher m = ONE.matcher(order);
        need(m.matches(), -3);
        int[] n = new int[m.groupCount() + 1];
        for (int i = 1; i < n.length; i++) n[i] = m.group(i) == null ? 0 : Integer.parseInt(m.group(i));
        switch (order.charAt(0)) {
            case 'f': return doField(s, n[1], n[2], n[3], n[4]);
            case 'q': return doQuota(s, n[5], n[6]);
            case 'l': return doLend(s, n[7], n[8], n[9]);
            case 's': return doStop(s, n[10], n[11]);
            default: return doPass(s, n[12]);
        }
    }

    int carryOut() {
        if (fault() != -6) return -3;
        String[] orders = pad.split(";");
        pad = "";
        return change(s -> {
            int done = 0;
            try {
                for (String order : orders) {
                    order(s, order);
                    done++;
                }
            } catch (Failure failure) {
                return done;
            }
            return done;
        });
    }

    int undo() {
        if (history.isEmpty()) return -5;
        state = history.remove(history.size() - 1);
        return history.size();
    }

    int save(int slot) {
        if (!in(slot, 0, 1)) return -2;
        slots[slot] = state.copy();
        return state.fields.size();
    }

    int restore(int slot) {
        if (!in(slot, 0, 1)) return -2;
        if (slots[slot] == null) return -5;
        return change(s -> {
            state = slots[slot].copy();
            return state.fields.size();
        });
    }
}
