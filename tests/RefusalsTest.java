/** Each error of each promise: the values just beyond the ranges and the wildest, the order of errors, nothing changed. */
public final class RefusalsTest {
    private static final int NO_SUCH = -1, BAD_VALUE = -2, BAD_TEXT = -3, TOO_MANY = -4, NOT_POSSIBLE = -5;
    private static final int MIN = Integer.MIN_VALUE, MAX = Integer.MAX_VALUE;
    private static final int[] LEAST = {0, 1, 1, 0, 0, 1, 0};
    private static final int[] MOST = {20, 30, 200, 400, 100, 20, 999};

    public static void main(String[] args) {
        for (Scene s : Scenes.ALL) {
            set(s);
            quota(s);
            lend(s);
            field(s);
            stop(s);
            pass(s);
            questions(s);
            whatIfs(s);
            put(s);
            slots(s);
        }
        lendNotPossible();
        fieldTooMany();
        fieldBurnt();
        stopTooMany();
        dropStop();
        passNotPossible();
        putTooMany();
        carryOutBadText();
        undoNotPossible();
        restoreNotPossible();
        Due.end("RefusalsTest");
    }

    /** What lies outside of a range: next to it, far off, and what would be in it if bits got lost. */
    private static int[] outside(int least, int most) {
        return new int[] {MIN, MIN + 1, least - 257, least - 1, most + 1, least + 65536, MAX - 1, MAX};
    }

    private static void set(Scene s) {
        for (int setting : outside(0, 6)) s.refuses("set(" + setting + ", 1)", x -> x.set(setting, 1), BAD_VALUE);
        for (int setting = 0; setting < 7; setting++) {
            int of = setting;
            for (int value : outside(LEAST[of], MOST[of])) {
                s.refuses("set(" + of + ", " + value + ")", x -> x.set(of, value), BAD_VALUE);
            }
        }
        s.refuses("both wrong", x -> x.set(7, 1000), BAD_VALUE);
    }

    private static void quota(Scene s) {
        for (int grower : outside(0, 5)) {
            s.refuses("quota of " + grower, x -> x.quota(grower, 1), NO_SUCH);
            s.refuses("quota, both wrong, " + grower, x -> x.quota(grower, 10000), NO_SUCH);
            s.refuses("quota, both wrong, " + grower, x -> x.quota(grower, -1), NO_SUCH);
        }
        for (int tonnes : outside(0, 9999)) {
            s.refuses("quota(0, " + tonnes + ")", x -> x.quota(0, tonnes), BAD_VALUE);
            s.refuses("quota(5, " + tonnes + ")", x -> x.quota(5, tonnes), BAD_VALUE);
        }
    }

    private static void lend(Scene s) {
        for (int none : outside(0, 5)) {
            s.refuses("lend from " + none, x -> x.lend(none, 1, 1), NO_SUCH);
            s.refuses("lend to " + none, x -> x.lend(1, none, 1), NO_SUCH);
            s.refuses("NO_SUCH before the same, " + none, x -> x.lend(none, none, 1), NO_SUCH);
            s.refuses("NO_SUCH before tonnes, from " + none, x -> x.lend(none, 1, 0), NO_SUCH);
            s.refuses("NO_SUCH before tonnes, to " + none, x -> x.lend(1, none, MIN), NO_SUCH);
            s.refuses("NO_SUCH before NOT_POSSIBLE, from " + none, x -> x.lend(none, 1, 10000), NO_SUCH);
            s.refuses("NO_SUCH before NOT_POSSIBLE, to " + none, x -> x.lend(1, none, MAX), NO_SUCH);
        }
        for (int tonnes : new int[] {MIN, MIN + 1, -10000, -1, 0}) {
            s.refuses("lend " + tonnes, x -> x.lend(2, 3, tonnes), BAD_VALUE);
            s.refuses("lend to the same " + tonnes, x -> x.lend(2, 2, tonnes), BAD_VALUE);
        }
        for (int tonnes : new int[] {1, 9999, 10000, MAX}) {
            s.refuses("BAD_VALUE before NOT_POSSIBLE, " + tonnes, x -> x.lend(0, 0, tonnes), BAD_VALUE);
            s.refuses("BAD_VALUE before NOT_POSSIBLE, " + tonnes, x -> x.lend(5, 5, tonnes), BAD_VALUE);
        }
        for (int tonnes : new int[] {10000, 65537, MAX - 9999, MAX - 1, MAX}) {
            s.refuses("more than any has, " + tonnes, x -> x.lend(4, 1, tonnes), NOT_POSSIBLE);
        }
    }

    private static void lendNotPossible() {
        Scene all = new Scene("lent", () -> {
            Watched x = new Watched();
            x.quota(0, 40);
            x.quota(1, 9999);
            x.quota(2, 9960);
            x.quota(3, 0);
            return x;
        });
        all.refuses("a tonne more than is left", x -> x.lend(0, 4, 41), NOT_POSSIBLE);
        all.refuses("a tonne of none", x -> x.lend(3, 4, 1), NOT_POSSIBLE);
        all.refuses("a tonne to 9999", x -> x.lend(0, 1, 1), NOT_POSSIBLE);
        all.refuses("40 to 9960", x -> x.lend(0, 2, 40), NOT_POSSIBLE);
        all.refuses("9961 to 39", x -> x.lend(2, 0, 9961), NOT_POSSIBLE);
        all.refuses("9960 to 40", x -> x.lend(2, 0, 9960), NOT_POSSIBLE);
        all.refuses("both are so", x -> x.lend(0, 1, MAX), NOT_POSSIBLE);
        Due.is("39 to 9960", all.made().lend(0, 2, 39), 1);
        Due.is("9959 to 40", all.made().lend(2, 0, 9959), 1);
        Due.is("all to 0", all.made().lend(1, 3, 9999), 0);
        Due.is("all 40", all.made().lend(0, 3, 40), 0);
    }

    private static void field(Scene s) {
        int now = s.made().count(0);
        for (int grower : outside(0, 5)) {
            s.refuses("field of " + grower, x -> x.field(grower, 1, 1, now), NO_SUCH);
            s.refuses("NO_SUCH before tonnes", x -> x.field(grower, 0, 1, now), NO_SUCH);
            s.refuses("NO_SUCH before purity", x -> x.field(grower, 1, 101, now), NO_SUCH);
            s.refuses("NO_SUCH before burnt", x -> x.field(grower, 1, 1, 1000), NO_SUCH);
        }
        for (int tonnes : outside(1, 300)) {
            s.refuses("field of tonnes " + tonnes, x -> x.field(0, tonnes, 1, now), BAD_VALUE);
        }
        for (int purity : outside(1, 100)) {
            s.refuses("field of purity " + purity, x -> x.field(5, 1, purity, now), BAD_VALUE);
        }
        for (int burnt : new int[] {MIN, MIN + 1, -1, now - 1, 1000, 1001, now + 65536, MAX}) {
            s.refuses("field burnt on " + burnt, x -> x.field(0, 1, 1, burnt), BAD_VALUE);
        }
    }

    private static void fieldTooMany() {
        Scene full = Scenes.FULL;
        full.refuses("the 31st field", x -> x.field(0, 1, 1, 20), TOO_MANY);
        full.refuses("the 31st field", x -> x.field(5, 300, 100, 999), TOO_MANY);
        full.refuses("BAD_VALUE before TOO_MANY", x -> x.field(0, 1, 1, 19), BAD_VALUE);
        full.refuses("NO_SUCH before TOO_MANY", x -> x.field(6, 1, 1, 20), NO_SUCH);
        Watched x = full.made();
        for (int undone = 0; undone < 6; undone++) x.undo();
        Due.is("the stops and the days are undone alone", x.count(1), 30);
    }

    private static void fieldBurnt() {
        Watched at999 = Scenes.DAY_999.made();
        Due.is("burnt on 999 on day 999", at999.field(0, 1, 1, 999), 1);
        Due.is("burnt at once", at999.ofField(1, 4), 1);
        Scenes.DAY_1000.refuses("burnt on 999 on day 1000", x -> x.field(0, 1, 1, 999), BAD_VALUE);
        Scenes.DAY_1000.refuses("burnt on 1000 on day 1000", x -> x.field(0, 1, 1, 1000), BAD_VALUE);
        Due.is("burnt on day 0", new Watched().field(0, 1, 1, 0), 0);
        Due.is("burnt on day 999", new Watched().field(0, 1, 1, 999), 0);
    }

    private static void stop(Scene s) {
        for (int first : outside(0, 999)) {
            s.refuses("stop from " + first, x -> x.stop(first, 999), BAD_VALUE);
            s.refuses("stop of " + first, x -> x.stop(first, first), BAD_VALUE);
        }
        for (int last : new int[] {MIN, -1, 0, 499, 1000, 1001, 65536 + 500, MAX}) {
            s.refuses("stop from 500 to " + last, x -> x.stop(500, last), BAD_VALUE);
        }
        s.refuses("stop from 999 to 998", x -> x.stop(999, 998), BAD_VALUE);
        s.refuses("stop from 1 to 0", x -> x.stop(1, 0), BAD_VALUE);
        for (int stop : new int[] {MIN, MIN + 1, -1, 5, 6, 65536, MAX - 1, MAX}) {
            s.refuses("dropStop of " + stop, x -> x.dropStop(stop), NO_SUCH);
        }
    }

    private static void stopTooMany() {
        Scenes.FULL.refuses("the sixth stop", x -> x.stop(0, 0), TOO_MANY);
        Scenes.FULL.refuses("the sixth stop", x -> x.stop(0, 999), TOO_MANY);
        Scenes.FULL.refuses("BAD_VALUE before TOO_MANY", x -> x.stop(0, 1000), BAD_VALUE);
        Scenes.FULL.refuses("BAD_VALUE before TOO_MANY", x -> x.stop(-1, 0), BAD_VALUE);
        Scenes.FULL.refuses("BAD_VALUE before TOO_MANY", x -> x.stop(2, 1), BAD_VALUE);
    }

    private static void dropStop() {
        Scenes.FRESH.refuses("no stop at all", x -> x.dropStop(0), NO_SUCH);
        Scenes.BUSY.refuses("2 of two", x -> x.dropStop(2), NO_SUCH);
        Scenes.FEW.refuses("1 of one", x -> x.dropStop(1), NO_SUCH);
        Scenes.FULL.refuses("5 of five", x -> x.dropStop(5), NO_SUCH);
    }

    private static void pass(Scene s) {
        for (int days : outside(1, 99)) s.refuses("pass(" + days + ")", x -> x.pass(days), BAD_VALUE);
    }

    private static void passNotPossible() {
        Scenes.DAY_999.refuses("2 days from 999", x -> x.pass(2), NOT_POSSIBLE);
        Scenes.DAY_999.refuses("99 days from 999", x -> x.pass(99), NOT_POSSIBLE);
        Scenes.DAY_1000.refuses("a day from 1000", x -> x.pass(1), NOT_POSSIBLE);
        Scenes.DAY_1000.refuses("99 days from 1000", x -> x.pass(99), NOT_POSSIBLE);
        Scenes.DAY_1000.refuses("BAD_VALUE before NOT_POSSIBLE", x -> x.pass(100), BAD_VALUE);
        Scenes.DAY_1000.refuses("BAD_VALUE before NOT_POSSIBLE", x -> x.pass(0), BAD_VALUE);
        Due.is("a day from 999", Scenes.DAY_999.made().pass(1), 1000);
        Watched x = new Watched();
        for (int i = 0; i < 9; i++) x.pass(99);
        x.pass(10);
        Due.is("901", x.count(0), 901);
        Due.is("99 days from 901", x.pass(99), 1000);
        x.undo();
        x.pass(1);
        Due.is("99 days from 902", x.pass(99), NOT_POSSIBLE);
        Due.is("no day of them passes", x.count(0), 902);
        Due.is("98 days from 902", x.pass(98), 1000);
    }

    private static void questions(Scene s) {
        int fields = s.made().count(1);
        int loads = s.made().count(4);
        for (int field : new int[] {MIN, MIN + 1, -1, fields, 30, 31, 32, 64, 65536, MAX}) {
            s.refuses("ofField of " + field, x -> x.ofField(field, 0), NO_SUCH);
            s.refuses("ofField, both wrong", x -> x.ofField(field, 10), NO_SUCH);
            s.refuses("ofField, both wrong", x -> x.ofField(field, -1), NO_SUCH);
        }
        for (int grower : outside(0, 5)) {
            s.refuses("ofGrower of " + grower, x -> x.ofGrower(grower, 0), NO_SUCH);
            s.refuses("ofGrower, both wrong", x -> x.ofGrower(grower, 6), NO_SUCH);
            s.refuses("ofGrower, both wrong", x -> x.ofGrower(grower, -1), NO_SUCH);
        }
        for (int what : outside(0, 5)) s.refuses("ofGrower what " + what, x -> x.ofGrower(0, what), BAD_VALUE);
        for (int place : new int[] {MIN, MIN + 1, -1, loads, 400, 401, 65536, MAX}) {
            s.refuses("load at " + place, x -> x.load(place, 0), NO_SUCH);
            s.refuses("load, both wrong", x -> x.load(place, 3), NO_SUCH);
            s.refuses("load, both wrong", x -> x.load(place, -1), NO_SUCH);
        }
        for (int what : outside(0, 9)) {
            if (fields > 0) s.refuses("ofField what " + what, x -> x.ofField(fields - 1, what), BAD_VALUE);
        }
        for (int what : outside(0, 2)) {
            if (loads > 0) s.refuses("load what " + what, x -> x.load(loads - 1, what), BAD_VALUE);
        }
        for (int what : outside(0, 19)) s.refuses("count " + what, x -> x.count(what), BAD_VALUE);
        for (int how : outside(0, 3)) s.refuses("fields " + how, x -> x.fields(how), BAD_VALUE);
    }

    private static void whatIfs(Scene s) {
        for (int days : outside(1, 300)) {
            s.refuses("then(" + days + ", 0)", x -> x.then(days, 0), BAD_VALUE);
            s.refuses("then(" + days + ", 3)", x -> x.then(days, 3), BAD_VALUE);
            s.refuses("leastTrucks(" + days + ")", x -> x.leastTrucks(days), BAD_VALUE);
            s.refuses("stopCosts(" + days + ", 0)", x -> x.stopCosts(days, 0), BAD_VALUE);
            s.refuses("stopCosts(" + days + ", the same)", x -> x.stopCosts(days, days), BAD_VALUE);
        }
        for (int what : outside(0, 2)) s.refuses("then(1, " + what + ")", x -> x.then(1, what), BAD_VALUE);
        for (int stopped : outside(0, 5)) {
            s.refuses("stopCosts(5, " + stopped + ")", x -> x.stopCosts(5, stopped), BAD_VALUE);
        }
        s.refuses("stopCosts(1, 2)", x -> x.stopCosts(1, 2), BAD_VALUE);
        s.refuses("stopCosts(300, 301)", x -> x.stopCosts(300, 301), BAD_VALUE);
    }

    private static void put(Scene s) {
        for (long none : new long[] {0, Long.MIN_VALUE, Long.MIN_VALUE + 1, Long.MAX_VALUE, -1, 1, 32, 127, 128, 255}) {
            s.refuses("put(" + none + ")", x -> x.put(none), BAD_VALUE);
        }
        for (int bit = 16; bit < 64; bit++) {
            long number = 'd' | 1L << bit;
            s.refuses("a bit behind a 0, " + bit, x -> x.put(number), BAD_VALUE);
        }
        for (int ends : new int[] {1, 2, 3, 7}) {
            long number = (long) 'd' << 8 * ends;
            s.refuses("no character below one, " + ends, x -> x.put(number), BAD_VALUE);
        }
        for (int place = 0; place < 8; place++) {
            for (int code : new int[] {0, 1, 32, 127, 128, 255}) {
                if (place == 7 && code == 0) continue;
                long number = Due.number("dddddddd") & ~(255L << 8 * place) | (long) code << 8 * place;
                s.refuses("the code " + code + " at " + place, x -> x.put(number), BAD_VALUE);
            }
        }
    }

    private static void putTooMany() {
        for (int room = 0; room < 8; room++) {
            int length = 80 - room;
            Scene s = new Scene("a pad of " + length, () -> {
                Watched x = new Watched();
                for (int i = 0; i < length / 8; i++) x.put(Due.number("d1;q5=3;"));
                Due.write(x, "d1;q5=9;".substring(0, length % 8));
                return x;
            });
            String fits = "12345678".substring(0, room);
            String more = "12345678".substring(0, room + 1);
            s.refuses("a character more", x -> x.put(Due.number(more)), TOO_MANY);
            s.refuses("8 characters", x -> x.put(Due.number("12345678")), TOO_MANY);
            s.refuses("BAD_VALUE before TOO_MANY", x -> x.put(Due.number("1234567 ")), BAD_VALUE);
            s.refuses("BAD_VALUE before TOO_MANY", x -> x.put(0), BAD_VALUE);
            if (room > 0) Due.is("to 80", s.made().put(Due.number(fits)), 80);
        }
    }

    private static void carryOutBadText() {
        for (String text : new String[] {"", "d", "d1;", "d1;q6=1", "d1;d01", "d1;d10000", "x", "d1;d1x"}) {
            Scene s = new Scene("the text " + text, () -> {
                Watched x = new Watched();
                x.field(0, 10, 10, 0);
                Due.write(x, text);
                return x;
            });
            s.refuses("carryOut", x -> x.carryOut(), BAD_TEXT);
            Due.is("the pad stays", with(s, x -> x.carryOut()).count(18), text.length());
        }
        Scenes.FEW.refuses("carryOut", x -> x.carryOut(), BAD_TEXT);
        Scenes.FRESH.refuses("carryOut", x -> x.carryOut(), BAD_TEXT);
    }

    private static Watched with(Scene s, Scene.Call call) {
        Watched x = s.made();
        call.on(x);
        return x;
    }

    private static void undoNotPossible() {
        Scenes.FRESH.refuses("undo", x -> x.undo(), NOT_POSSIBLE);
        Scene undone = new Scene("all undone", () -> {
            Watched x = Scenes.BUSY.made();
            for (int i = 0; i < 6; i++) x.undo();
            return x;
        });
        undone.refuses("undo", x -> x.undo(), NOT_POSSIBLE);
    }

    private static void slots(Scene s) {
        for (int slot : outside(0, 1)) {
            s.refuses("save(" + slot + ")", x -> x.save(slot), BAD_VALUE);
            s.refuses("restore(" + slot + ")", x -> x.restore(slot), BAD_VALUE);
        }
    }

    private static void restoreNotPossible() {
        for (int slot = 0; slot < 2; slot++) {
            int of = slot;
            Scenes.FRESH.refuses("restore(" + slot + ")", x -> x.restore(of), NOT_POSSIBLE);
            Scenes.DAY_1000.refuses("restore(" + slot + ")", x -> x.restore(of), NOT_POSSIBLE);
        }
        Scenes.BUSY.refuses("restore(0)", x -> x.restore(0), NOT_POSSIBLE);
        Scenes.FEW.refuses("restore(1)", x -> x.restore(1), NOT_POSSIBLE);
    }
}
