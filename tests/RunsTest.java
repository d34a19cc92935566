/** Random runs, the same each time: the program and the model have to answer alike. */
public final class RunsTest {
    private static final int RUNS = 6000;
    // A change takes some 90 calls at most, a text that is put sign by sign; the last looks take 70.
    private static final int CALLS_BEFORE_THE_LAST_CHANGE = 340;
    private static final int LAST_LOOKS = 10;
    private static final int[] FAR = {Integer.MIN_VALUE, Integer.MIN_VALUE + 1, -1000, -1, 0, 1, 5, 6, 20, 30, 31, 99,
        100, 300, 301, 400, 999, 1000, 1001, 9999, 10000, Integer.MAX_VALUE - 1, Integer.MAX_VALUE};

    private static long seed;
    private static Watched x;
    private static Model m;
    private static int run;
    private static int longDays;

    public static void main(String[] args) {
        for (run = 0; run < RUNS; run++) {
            seed = run * 7919L + 17;
            x = new Watched();
            m = new Model();
            longDays = upTo(3);
            settle();
            for (int call = 0; x.calls() < CALLS_BEFORE_THE_LAST_CHANGE; call++) {
                change();
                if (call % 4 == 0) lookAtSome();
                if (call % 20 == 19) whatIf();
            }
            for (int look = 0; look < LAST_LOOKS; look++) lookAtSome();
        }
        Due.end("RunsTest");
    }

    /** 0 to most. */
    private static int upTo(int most) {
        seed = seed * 6364136223846793005L + 1442695040888963407L;
        return (int) ((seed >>> 33) % (most + 1));
    }

    private static int far(int usual) {
        return upTo(40) == 0 ? FAR[upTo(FAR.length - 1)] : usual;
    }

    private static void due(String call, long got, long want) {
        if (got != want) call = "run " + run + ", day " + m.count(0) + ": " + call;
        Due.is(call, got, want);
    }

    private static void settle() {
        int[] most = {20, 30, 200, 400, 100, 20, 999};
        for (int setting = 0; setting < 7; setting++) {
            if (upTo(1) == 0) set(setting, 1 + upTo(most[setting] - 1));
        }
        if (upTo(2) == 0) set(CaneQuotas.YARD, upTo(40));
        if (upTo(2) == 0) set(CaneQuotas.MILL, 1 + upTo(20));
        if (upTo(2) == 0) set(CaneQuotas.LOSS, upTo(5));
        for (int grower = 0; grower < 6; grower++) {
            if (upTo(1) == 0) quota(grower, upTo(700));
        }
    }

    private static void change() {
        switch (upTo(21)) {
            case 0: set(far(upTo(6)), far(upTo(20))); break;
            case 1: set(CaneQuotas.YARD, far(upTo(400))); break;
            case 2: quota(far(upTo(5)), far(upTo(400))); break;
            case 3: lend(far(upTo(5)), far(upTo(5)), far(upTo(150))); break;
            case 4: case 5: case 6: case 7: field(); break;
            case 8: stop(); break;
            case 9: dropStop(far(upTo(5))); break;
            case 10: case 11: case 12: case 13: pass(far(1 + upTo(3))); break;
            case 14: pass(far(longDays == 0 ? 1 + upTo(98) : 1 + upTo(9))); break;
            case 15: write(); break;
            case 16: write(); break;
            case 17: wildPut(); break;
            case 18: due("undo", x.undo(), m.undo()); break;
            case 19: save(far(upTo(1))); break;
            case 20: restore(far(upTo(1))); break;
            default: due("wipe", x.wipe(), m.wipe());
        }
    }

    private static void set(int setting, int value) {
        due("set(" + setting + ", " + value + ")", x.set(setting, value), m.set(setting, value));
    }

    private static void quota(int grower, int tonnes) {
        due("quota(" + grower + ", " + tonnes + ")", x.quota(grower, tonnes), m.quota(grower, tonnes));
    }

    private static void lend(int grower, int other, int tonnes) {
        due("lend(" + grower + ", " + other + ", " + tonnes + ")", x.lend(grower, other, tonnes),
            m.lend(grower, other, tonnes));
    }

    private static void field() {
        int grower = far(upTo(5));
        int tonnes = far(upTo(2) == 0 ? 1 + upTo(299) : 1 + upTo(50));
        int purity = far(1 + upTo(99));
        int burnt = far(m.count(0) + upTo(4));
        due("field(" + grower + ", " + tonnes + ", " + purity + ", " + burnt + ")",
            x.field(grower, tonnes, purity, burnt), m.field(grower, tonnes, purity, burnt));
    }

    private static void stop() {
        int first = far(m.count(0) + upTo(4));
        int last = far(first + upTo(6) - 1);
        due("stop(" + first + ", " + last + ")", x.stop(first, last), m.stop(first, last));
    }

    private static void dropStop(int stop) {
        due("dropStop(" + stop + ")", x.dropStop(stop), m.dropStop(stop));
    }

    private static void pass(int days) {
        due("pass(" + days + ")", x.pass(days), m.pass(days));
    }

    private static void save(int slot) {
        due("save(" + slot + ")", x.save(slot), m.save(slot));
    }

    private static void restore(int slot) {
        due("restore(" + slot + ")", x.restore(slot), m.restore(slot));
    }

    private static void wildPut() {
        int bits = upTo(63);
        long number = upTo(1) == 0 ? seed >> bits : seed & 0x7f7f7f7f7f7f7f7fL & -1L >>> bits;
        due("put(" + number + ")", x.put(number), m.put(number));
    }

    /** A text of some orders, now and then with a slip in it. */
    private static void write() {
        if (upTo(1) == 0) due("wipe", x.wipe(), m.wipe());
        StringBuilder text = new StringBuilder();
        int orders = upTo(4);
        for (int i = 0; i <= orders; i++) text.append(i == 0 ? "" : ";").append(order());
        if (upTo(3) == 0) text.setCharAt(upTo(text.length() - 1), "fqlsd:%@=>-;0123456789x".charAt(upTo(22)));
        if (upTo(9) == 0) text.setLength(upTo(text.length()));
        int at = 0;
        while (at < text.length()) {
            int end = Math.min(text.length(), at + 1 + upTo(7));
            long number = Due.number(text.substring(at, end));
            due("put(" + number + ")", x.put(number), m.put(number));
            at = end;
            if (upTo(7) == 0) due("fault", x.fault(), m.fault());
        }
        due("fault", x.fault(), m.fault());
        due("carryOut of " + text, x.carryOut(), m.carryOut());
        due("length", x.count(18), m.count(18));
    }

    private static String order() {
        int now = m.count(0);
        switch (upTo(5)) {
            case 0: return "f" + upTo(5) + ":" + (1 + upTo(320)) + "%" + upTo(105) + "@" + (now + upTo(5));
            case 1: return "q" + upTo(5) + "=" + upTo(400);
            case 2: return "l" + upTo(5) + ">" + upTo(5) + "=" + upTo(50);
            case 3: return "s" + (now + upTo(3)) + "-" + (now + upTo(6));
            default: return "d" + upTo(4);
        }
    }

    private static void whatIf() {
        int days = far(1 + upTo(upTo(3) == 0 ? 299 : 20));
        for (int what = -1; what <= 3; what++) due("then(" + days + ", " + what + ")", x.then(days, what), m.then(days, what));
        due("leastTrucks(" + days + ")", x.leastTrucks(days), m.leastTrucks(days));
        int stopped = far(upTo(Math.max(0, Math.min(days, 300))));
        due("stopCosts(" + days + ", " + stopped + ")", x.stopCosts(days, stopped), m.stopCosts(days, stopped));
    }

    private static void lookAtSome() {
        due("next", x.next(), m.next());
        int what = far(upTo(19));
        due("count(" + what + ")", x.count(what), m.count(what));
        int field = far(upTo(m.count(1)));
        what = far(upTo(9));
        due("ofField(" + field + ", " + what + ")", x.ofField(field, what), m.ofField(field, what));
        int grower = far(upTo(5));
        what = far(upTo(5));
        due("ofGrower(" + grower + ", " + what + ")", x.ofGrower(grower, what), m.ofGrower(grower, what));
        int place = far(upTo(m.count(4)));
        what = far(upTo(2));
        due("load(" + place + ", " + what + ")", x.load(place, what), m.load(place, what));
        int how = far(upTo(3));
        due("fields(" + how + ")", x.fields(how), m.fields(how));
    }
}
