/** The boundary cases of next, then, leastTrucks and stopCosts, and that they change nothing. */
public final class WhatIfEdgesTest {
    private static final int BAD_VALUE = -2, NONE = -6;
    private static final int TRUCKS = 0, LOAD = 1, MILL = 2, YARD = 3, LOSS = 4, OLD = 5, PRICE = 6;
    private static final int SAME = 100000;

    public static void main(String[] args) {
        for (Scene s : Scenes.ALL) {
            nothingChanges(s);
            asDaysWouldPass(s);
            trucksAsDaysWouldPass(s);
        }
        lostOnTheLastOf300Days();
        nextOfNoField();
        nextWithoutTrucks();
        nextOfLostAge();
        nextByRoom();
        nextByQuota();
        nextIsWhatIsBrought();
        thenOfOneDayAnd300();
        thenOnlyOfThem();
        thenBeyondDay1000();
        thenWithStops();
        leastTrucksIs0();
        leastTrucksIs20OrNone();
        leastTrucksAtTheLastDay();
        leastTrucksDoesNotLookAtTheSetting();
        leastTrucksOfWhatIsLostAnyway();
        leastTrucksBesideAStop();
        leastTrucksOfAFullYard();
        leastTrucksIsRefusedBeforeNone();
        stopCostsOfNoDayAndAll();
        stopCostsBesideAStop();
        stopCostsByWhatIsLost();
        stopBringsMoreSugar();
        Due.end("WhatIfEdgesTest");
    }

    private static void nothingChanges(Scene s) {
        s.keeps("next", x -> x.next());
        for (int days : new int[] {1, 2, 299, 300}) {
            for (int what = 0; what < 3; what++) {
                int of = what;
                s.keeps("then", x -> x.then(days, of));
            }
            s.keeps("leastTrucks", x -> x.leastTrucks(days));
            s.keeps("stopCosts of none", x -> x.stopCosts(days, 0));
            s.keeps("stopCosts of one", x -> x.stopCosts(days, 1));
            s.keeps("stopCosts of all", x -> x.stopCosts(days, days));
        }
        s.keeps("fault", x -> x.fault());
        s.keeps("count", x -> x.count(0));
        s.keeps("fields", x -> x.fields(1));
        s.keeps("ofField", x -> x.ofField(0, 9));
        s.keeps("ofGrower", x -> x.ofGrower(0, 5));
        s.keeps("load", x -> x.load(0, 0));
    }

    /** What would be is what comes, if the days pass. */
    private static void asDaysWouldPass(Scene s) {
        int left = 1000 - s.made().count(0);
        for (int days : new int[] {1, 2, 7, 98, 99}) {
            if (days > left) continue;
            int[] counts = {7, 6, 8};
            for (int what = 0; what < 3; what++) {
                Watched x = s.made();
                int before = x.count(counts[what]);
                int would = x.then(days, what);
                x.pass(days);
                Due.is("then(" + days + ", " + what + ")", x.count(counts[what]) - before, would);
            }
            if (s.made().count(2) == 5) continue;
            for (int stopped = 1; stopped <= days; stopped++) costsAsAStopWould(s.made(), days, stopped);
        }
    }

    private static void costsAsAStopWould(Watched x, int days, int stopped) {
        int cost = x.stopCosts(days, stopped);
        int would = x.then(days, 1);
        x.stop(x.count(0), Math.min(999, x.count(0) + stopped - 1));
        Due.is("stopCosts(" + days + ", " + stopped + ")", SAME + would - x.then(days, 1), cost);
    }

    /** The least TRUCKS is the first one of 0 to 20 by which the days, if they pass, bring no loss. */
    private static void trucksAsDaysWouldPass(Scene s) {
        int left = 1000 - s.made().count(0);
        for (int days : new int[] {1, 2, 3, 7, 30, 99}) {
            if (days > left) continue;
            int least = NONE;
            for (int trucks = 20; trucks >= 0; trucks--) {
                Watched x = s.made();
                x.set(TRUCKS, trucks);
                int before = x.count(7);
                x.pass(days);
                if (x.count(7) == before) least = trucks;
            }
            Due.is("leastTrucks(" + days + ")", s.made().leastTrucks(days), least);
        }
    }

    private static void lostOnTheLastOf300Days() {
        Watched x = Watched.mill(TRUCKS, 0, OLD, 1);
        x.field(0, 10, 50, 297);
        Due.is("not in 299 days", x.then(299, 0), 0);
        Due.is("not in 299 days", x.leastTrucks(299), 0);
        Due.is("on the 300th", x.then(300, 0), 10);
        Due.is("on the 300th", x.leastTrucks(300), 1);
        x.undo();
        x.field(0, 10, 50, 298);
        Due.is("a day behind them", x.then(300, 0), 0);
        Due.is("a day behind them", x.leastTrucks(300), 0);
        x.pass(1);
        Due.is("from day 1 on the 300th", x.then(300, 0), 10);
        Due.is("from day 1 on the 300th", x.leastTrucks(300), 1);
    }

    // ---- next

    private static void nextOfNoField() {
        Watched x = Watched.mill();
        Due.is("no field", x.next(), NONE);
        x.field(0, 10, 50, 1);
        Due.is("a green one", x.next(), NONE);
        x.pass(1);
        Due.is("burnt", x.next(), 0);
        x.pass(1);
        Due.is("empty", x.next(), NONE);
        x.set(TRUCKS, 0);
        x.set(OLD, 1);
        x.field(0, 10, 50, 2);
        x.pass(3);
        Due.is("lost", x.next(), NONE);
    }

    private static void nextWithoutTrucks() {
        Watched x = Watched.mill(TRUCKS, 0);
        x.field(0, 10, 50, 0);
        Due.is("if a truck came now", x.next(), 0);
        x.set(TRUCKS, 20);
        Due.is("with trucks", x.next(), 0);
        x.stop(0, 999);
        Due.is("a stop holds no truck", x.next(), 0);
    }

    private static void nextOfLostAge() {
        Watched x = Watched.mill(TRUCKS, 0, OLD, 1);
        x.field(0, 10, 50, 0);
        x.field(1, 10, 50, 1);
        x.pass(2);
        Due.is("1 is not looked at: it would be lost first", x.next(), 0);
        x.set(TRUCKS, 1);
        x.pass(1);
        Due.is("it was lost", x.ofField(0, 4), 3);
        Due.is("the other one was brought", x.ofField(1, 4), 2);
    }

    private static void nextByRoom() {
        Watched x = Watched.mill(YARD, 10);
        x.field(0, 99, 50, 0);
        x.stop(0, 0);
        Due.is("an empty yard", x.next(), 0);
        x.pass(1);
        Due.is("a full one", x.next(), NONE);
        x.set(YARD, 11);
        Due.is("room for a tonne", x.next(), 0);
        x.set(YARD, 9);
        Due.is("more than YARD in it", x.next(), NONE);
        x.set(YARD, 0);
        Due.is("a yard of 0", x.next(), NONE);
        x.set(YARD, 400);
        Due.is("a yard of 400", x.next(), 0);
    }

    private static void nextByQuota() {
        Watched x = Watched.mill();
        x.field(0, 99, 50, 0);
        x.field(1, 99, 50, 0);
        x.field(1, 99, 50, 0);
        Due.is("the same quota", x.next(), 0);
        x.quota(1, 101);
        Due.is("a tonne more", x.next(), 1);
        x.quota(0, 102);
        Due.is("a tonne more", x.next(), 0);
        x.quota(0, 0);
        Due.is("0", x.next(), 1);
        x.quota(1, 0);
        Due.is("all are 0", x.next(), NONE);
        x.quota(1, 1);
        Due.is("1", x.next(), 1);
        x.lend(1, 0, 1);
        Due.is("lent", x.next(), 0);
    }

    private static void nextIsWhatIsBrought() {
        Watched x = Watched.mill(TRUCKS, 1, LOAD, 7, OLD, 20);
        x.quota(3, 130);
        for (int field = 0; field < 12; field++) x.field(field % 5, 5 + field, 50, field % 3);
        x.stop(0, 999);
        for (int day = 0; day < 12; day++) {
            int next = x.next();
            int loads = x.count(4);
            if (next == NONE) continue;
            x.pass(1);
            if (x.count(4) > loads) Due.is("the load of day " + day, x.load(loads, 0), next);
        }
        Due.holds("there were some", x.count(4) > 5);
    }

    // ---- then

    private static void thenOfOneDayAnd300() {
        Watched x = Watched.mill(TRUCKS, 1, OLD, 20);
        x.field(0, 30, 100, 0);
        Due.is("1 day", x.then(1, 1), 10);
        Due.is("2 days", x.then(2, 1), 10 + 9);
        Due.is("3 days", x.then(3, 1), 10 + 9 + 8);
        x.field(1, 10, 100, 299);
        x.field(2, 10, 100, 300);
        Due.is("299 days", x.then(299, 1), 27);
        Due.is("300 days: burnt on the last one", x.then(300, 1), 37);
        x.pass(1);
        Due.is("300 days from day 1", x.then(300, 1), 9 + 8 + 10 + 10);
        Due.is("paid", x.then(300, 2), 276 + 252 + 300 + 300);
    }

    private static void thenOnlyOfThem() {
        Watched x = Watched.mill(TRUCKS, 1, OLD, 1);
        x.field(0, 30, 100, 0);
        x.field(1, 40, 100, 3);
        x.pass(3);
        Due.is("lost so far", x.count(7), 10);
        Due.is("what is lost already does not count", x.then(2, 0), 0);
        Due.is("a day before", x.then(2, 0), 0);
        Due.is("on the day", x.then(3, 0), 20);
        Due.is("once", x.then(300, 0), 20);
        Due.is("sugar made already does not count", x.then(1, 1), 10);
        Due.is("nor what was paid", x.then(1, 2), 300);
        Watched empty = Watched.mill();
        for (int what = 0; what < 3; what++) Due.is("of no field", empty.then(300, what), 0);
    }

    private static void thenBeyondDay1000() {
        Watched x = Watched.mill(TRUCKS, 1, OLD, 1);
        for (int i = 0; i < 10; i++) x.pass(99);
        x.field(0, 30, 100, 999);
        x.pass(9);
        Due.is("day 999", x.then(1, 1), 10);
        Due.is("day 1000", x.then(2, 1), 10 + 9);
        Due.is("day 1001", x.then(3, 0), 10);
        Due.is("day 1298", x.then(300, 0), 10);
        x.pass(1);
        Due.is("from day 1000", x.then(1, 1), 9);
        Due.is("from day 1000", x.then(2, 0), 10);
        Due.is("from day 1000", x.then(300, 2), 276);
        Due.is("one load is late", x.stopCosts(300, 1), SAME + 9 - 8);
        Due.is("none would do", x.leastTrucks(300), 2);
        Due.is("the day of now stays", x.count(0), 1000);
    }

    private static void thenWithStops() {
        Watched x = Watched.mill(TRUCKS, 1, LOSS, 10);
        x.field(0, 10, 100, 0);
        x.stop(0, 1);
        Due.is("stopped on both", x.then(2, 1), 0);
        Due.is("behind the stop", x.then(3, 1), 8);
        x.dropStop(0);
        Due.is("no stop", x.then(1, 1), 10);
    }

    // ---- leastTrucks

    private static void leastTrucksIs0() {
        Watched x = Watched.mill(OLD, 1);
        Due.is("no field", x.leastTrucks(300), 0);
        x.field(0, 10, 50, 5);
        Due.is("green all the while", x.leastTrucks(5), 0);
        Due.is("burnt, but not old", x.leastTrucks(7), 0);
        Due.is("the day on which it is lost", x.leastTrucks(8), 1);
        x.undo();
        x.field(0, 300, 50, 0);
        x.set(TRUCKS, 0);
        x.pass(3);
        Due.is("all is lost already", x.leastTrucks(300), 0);
    }

    private static void leastTrucksIs20OrNone() {
        Watched x = Watched.mill(OLD, 1, LOAD, 1, TRUCKS, 0);
        x.field(0, 38, 50, 0);
        Due.is("38 in 2 days", x.leastTrucks(3), 19);
        x.field(0, 1, 50, 0);
        Due.is("39 in 2 days", x.leastTrucks(3), 20);
        x.field(0, 1, 50, 0);
        Due.is("40 in 2 days", x.leastTrucks(3), 20);
        x.field(0, 1, 50, 0);
        Due.is("41 in 2 days", x.leastTrucks(3), NONE);
        Due.is("but not lost in 2 days", x.leastTrucks(2), 0);
    }

    private static void leastTrucksAtTheLastDay() {
        for (int old : new int[] {1, 20}) {
            Watched x = Watched.mill(OLD, old);
            x.field(0, 1, 50, 0);
            Due.is("OLD and a day", x.leastTrucks(old + 1), 0);
            Due.is("OLD and two days", x.leastTrucks(old + 2), 1);
            Due.is("300 days", x.leastTrucks(300), 1);
        }
    }

    private static void leastTrucksDoesNotLookAtTheSetting() {
        for (int trucks = 0; trucks <= 20; trucks += 5) {
            Watched x = Watched.mill(OLD, 2, TRUCKS, trucks);
            x.field(0, 61, 50, 0);
            Due.is("7 loads in 3 days", x.leastTrucks(4), 3);
            Due.is("the setting stays", x.count(11), trucks);
        }
    }

    private static void leastTrucksOfWhatIsLostAnyway() {
        Watched x = Watched.mill(OLD, 1);
        x.field(0, 10, 50, 0);
        x.quota(0, 9);
        Due.is("a tonne above the quota", x.leastTrucks(3), NONE);
        x.quota(0, 10);
        Due.is("just the quota", x.leastTrucks(3), 1);
        x.set(YARD, 0);
        Due.is("no yard", x.leastTrucks(3), NONE);
        x.set(YARD, 10);
        x.set(TRUCKS, 0);
        x.pass(2);
        Due.is("too old already", x.leastTrucks(1), NONE);
        x.set(OLD, 2);
        Due.is("not yet", x.leastTrucks(1), 0);
        Due.is("brought today", x.leastTrucks(300), 1);
    }

    private static void leastTrucksBesideAStop() {
        Watched x = Watched.mill(OLD, 1, YARD, 10, MILL, 10);
        x.field(0, 20, 50, 0);
        Due.is("10 on each of 2 days", x.leastTrucks(3), 1);
        x.stop(0, 0);
        Due.is("the first 10 wait in the yard", x.leastTrucks(3), NONE);
        Due.is("nothing is lost before", x.leastTrucks(2), 0);
        x.dropStop(0);
        x.stop(1, 9);
        Due.is("stopped when both came", x.leastTrucks(3), 1);
        x.set(YARD, 20);
        x.dropStop(0);
        x.stop(0, 9);
        Due.is("room for both", x.leastTrucks(3), 1);
    }

    private static void leastTrucksOfAFullYard() {
        Watched x = Watched.mill(OLD, 1, YARD, 20, TRUCKS, 2, MILL, 1);
        x.field(0, 20, 50, 0);
        x.field(1, 10, 50, 1);
        x.stop(0, 0);
        x.pass(1);
        Due.is("full", x.count(3), 20);
        Due.is("a tonne's room on each day", x.leastTrucks(3), NONE);
        x.set(MILL, 10);
        Due.is("room for all on the second day", x.leastTrucks(3), 1);
        x.set(MILL, 9);
        Due.is("9 of 10", x.leastTrucks(3), NONE);
    }

    private static void leastTrucksIsRefusedBeforeNone() {
        Watched x = Watched.mill(OLD, 1, YARD, 0);
        x.field(0, 10, 50, 0);
        Due.is("none", x.leastTrucks(300), NONE);
        Due.is("an error goes first", x.leastTrucks(301), BAD_VALUE);
        Due.is("an error goes first", x.leastTrucks(0), BAD_VALUE);
    }

    // ---- stopCosts

    private static void stopCostsOfNoDayAndAll() {
        Watched x = Watched.mill(LOSS, 10);
        Due.is("no cane", x.stopCosts(300, 300), SAME);
        x.field(0, 10, 100, 0);
        Due.is("of no day", x.stopCosts(1, 0), SAME);
        Due.is("of no day", x.stopCosts(300, 0), SAME);
        Due.is("of the one", x.stopCosts(1, 1), SAME + 10);
        Due.is("of one of two", x.stopCosts(2, 1), SAME + 1);
        Due.is("of both", x.stopCosts(2, 2), SAME + 10);
        Due.is("of two of three", x.stopCosts(3, 2), SAME + 2);
        Due.is("of 9 of 300", x.stopCosts(300, 9), SAME + 9);
        Due.is("of 10 of 300", x.stopCosts(300, 10), SAME + 10);
        Due.is("of 300 of 300", x.stopCosts(300, 300), SAME + 10);
    }

    private static void stopCostsBesideAStop() {
        Watched x = Watched.mill(LOSS, 10);
        x.field(0, 10, 100, 0);
        x.stop(1, 2);
        Due.is("a day before the stop", x.stopCosts(9, 1), SAME + 10 - 7);
        Due.is("into the stop", x.stopCosts(9, 2), SAME + 10 - 7);
        Due.is("the whole stop", x.stopCosts(9, 3), SAME + 10 - 7);
        Due.is("a day behind it", x.stopCosts(9, 4), SAME + 10 - 6);
        Due.is("the stops stay", x.count(2), 1);
        for (int stop = 1; stop < 5; stop++) x.stop(9, 9);
        Due.is("beside five stops", x.stopCosts(9, 1), SAME + 10 - 7);
        Due.is("stopped days stay", x.count(10), 0);
    }

    private static void stopCostsByWhatIsLost() {
        Watched x = Watched.mill(LOSS, 0, OLD, 1, YARD, 10, MILL, 10);
        x.field(0, 20, 100, 0);
        Due.is("the yard is full meanwhile, 10 are lost", x.stopCosts(9, 1), SAME + 10);
        Due.is("so no later stop costs more", x.stopCosts(9, 2), SAME + 10);
    }

    private static void stopBringsMoreSugar() {
        Watched x = Watched.mill(LOSS, 0, TRUCKS, 1, LOAD, 1, MILL, 2, PRICE, 999);
        x.field(0, 4, 60, 0);
        Due.is("loads of a tonne make none anyway", x.stopCosts(9, 1), SAME);
        Watched y = Watched.mill(LOSS, 0, LOAD, 10, TRUCKS, 1, MILL, 3);
        y.field(0, 1, 50, 0);
        y.field(1, 10, 50, 1);
        Due.is("1 and 3, 3, 3, 1 of 10 make 0 and 1, 1, 1, 0", y.then(9, 1), 3);
        Due.is("1, 2 and 3, 3, 2 make 0, 1 and 1, 1, 1", y.stopCosts(9, 2), SAME - 1);
        Due.is("nothing is sold by it", y.count(8), 0);
    }
}
