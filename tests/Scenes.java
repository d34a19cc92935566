/** Scenes from which calls are made; each takes few calls to make. */
final class Scenes {
    private static final int TRUCKS = 0, LOAD = 1, MILL = 2, YARD = 3, OLD = 5;

    static final Scene FRESH = new Scene("fresh", Watched::new);
    static final Scene BUSY = new Scene("busy", Scenes::busy);
    static final Scene FEW = new Scene("few changes", Scenes::few);
    static final Scene FULL = new Scene("full", Scenes::full);
    static final Scene DAY_999 = new Scene("day 999", () -> late(9));
    static final Scene DAY_1000 = new Scene("day 1000", () -> late(10));
    static final Scene[] ALL = {FRESH, BUSY, FEW, FULL, DAY_999, DAY_1000};

    private Scenes() {
    }

    /** A green field, a burnt, an empty and a lost one, loads, stops, a text, a slot, and a state that was dropped. */
    private static Watched busy() {
        Watched x = new Watched();
        x.set(OLD, 2);
        x.set(TRUCKS, 3);
        x.set(MILL, 13);
        x.field(0, 10, 90, 0);
        x.field(1, 95, 80, 0);
        x.field(2, 30, 70, 4);
        x.field(3, 20, 60, 9);
        x.stop(1, 2);
        x.save(1);
        x.stop(5, 6);
        x.pass(4);
        x.quota(4, 250);
        x.lend(4, 5, 50);
        Due.write(x, "q0=7;d1;f1:9%9@7");
        return x;
    }

    /** Five changes, so that one more drops no state. */
    private static Watched few() {
        Watched x = new Watched();
        x.set(MILL, 7);
        x.field(0, 60, 95, 0);
        x.field(1, 60, 95, 0);
        x.stop(1, 2);
        x.save(0);
        x.pass(2);
        Due.write(x, "d1;d");
        return x;
    }

    /** 30 fields, 5 stops, 400 loads, 80 characters, 6 states, both slots. */
    private static Watched full() {
        Watched x = new Watched();
        x.set(YARD, 400);
        x.set(LOAD, 1);
        x.set(TRUCKS, 20);
        x.set(OLD, 20);
        x.quota(0, 9999);
        for (int field = 0; field < 30; field++) x.field(field % 6, 300, 100, field < 25 ? 0 : 30);
        x.save(0);
        for (int stop = 0; stop < 5; stop++) x.stop(stop, 19 + stop);
        x.pass(20);
        x.save(1);
        for (int i = 0; i < 26; i++) Due.write(x, "d1;");
        Due.write(x, "d1");
        return x;
    }

    private static Watched late(int lastDays) {
        Watched x = new Watched();
        x.field(2, 30, 90, 999);
        for (int i = 0; i < 10; i++) x.pass(99);
        x.stop(999, 999);
        x.pass(lastDays);
        Due.write(x, "q1=5;d1");
        return x;
    }
}
