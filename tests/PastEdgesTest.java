/** The boundary cases of undo, save and restore. */
public final class PastEdgesTest {
    private static final int NOT_POSSIBLE = -5, NO_SUCH = -1;
    private static final int TRUCKS = 0, MILL = 2, OLD = 5, PRICE = 6;

    public static void main(String[] args) {
        undoOfEachChange(Scenes.FRESH);
        undoOfEachChange(Scenes.FEW);
        undoOfTheOthers();
        undoOfTheOldestKept();
        eachChangeIsRecorded();
        othersAreNotRecorded();
        historyOf0To6();
        seventhDropsTheOldest();
        refusedDropsNone();
        sameValueIsRecorded();
        undoAndChangeByTurns();
        undoKeepsPadAndSlots();
        undoOfTheTenthPass();
        saveIsNoChange();
        saveKeepsAsItWas();
        savedAgain();
        savedLessOverMore();
        slotsAreTwo();
        slotWithoutFields();
        restoreTwice();
        restoreIsAChange();
        undoBehindRestore();
        restoreKeepsPadAndHistory();
        restoreOfMoreAndLess();
        restoreOverAnotherField();
        undoOfALostField();
        fieldBehindAnEmptySlot();
        restoreOf400Loads();
        saveBehindUndo();
        Due.end("PastEdgesTest");
    }

    // ---- undo

    private static void undoOfEachChange(Scene s) {
        s.isUndone("set", x -> x.set(PRICE, 31));
        s.isUndone("set to the same", x -> x.set(TRUCKS, 4));
        s.isUndone("quota", x -> x.quota(0, 3));
        s.isUndone("lend", x -> x.lend(5, 0, 3));
        s.isUndone("field", x -> x.field(2, 3, 4, 5));
        s.isUndone("stop", x -> x.stop(3, 3));
        s.isUndone("a day", x -> x.pass(1));
        s.isUndone("99 days", x -> x.pass(99));
    }

    private static void undoOfTheOthers() {
        Scenes.FEW.isUndone("dropStop", x -> x.dropStop(0));
        Scenes.FEW.isUndone("restore", x -> x.restore(0));
        Scene wiped = new Scene("few changes, wiped", () -> {
            Watched x = Scenes.FEW.made();
            x.wipe();
            return x;
        });
        String[] texts = {"d99", "d0", "f5:300%100@99;d5;s5-6;l2>0=50", "q0=0;q1=0;d0;d1"};
        for (String text : texts) {
            wiped.isUndone("carryOut of " + text, x -> {
                Due.write(x, text);
                return x.carryOut();
            });
        }
    }

    /** Of six, the first one that was recorded is undone last. */
    private static void undoOfTheOldestKept() {
        Scenes.FEW.isAlso("six changes, six undone but the five of before", () -> {
            Watched x = Scenes.FEW.made();
            x.pass(50);
            x.undo();
            x.field(0, 300, 100, 2);
            x.undo();
            x.restore(0);
            x.undo();
            return x;
        });
        Scenes.FRESH.isAlso("six changes and six undone", () -> {
            Watched x = Scenes.FRESH.made();
            x.field(0, 300, 100, 0);
            x.stop(1, 3);
            x.pass(2);
            x.set(MILL, 7);
            x.lend(0, 1, 20);
            x.quota(3, 0);
            for (int i = 0; i < 6; i++) x.undo();
            return x;
        });
    }

    private static void recorded(String told, Watched x, long answer) {
        Due.holds(told + " is done", answer >= 0);
        Due.is(told + " is recorded", x.count(19), 1);
        x.undo();
        Due.is(told + " is undone", x.count(19), 0);
    }

    private static void eachChangeIsRecorded() {
        Watched x = new Watched();
        recorded("set", x, x.set(MILL, 9));
        recorded("quota", x, x.quota(0, 9));
        recorded("lend", x, x.lend(0, 1, 9));
        recorded("field", x, x.field(0, 9, 9, 9));
        recorded("stop", x, x.stop(9, 9));
        recorded("pass", x, x.pass(9));
        Due.write(x, "d0");
        recorded("carryOut", x, x.carryOut());
        x.save(0);
        recorded("restore", x, x.restore(0));
        Watched y = new Watched();
        y.stop(1, 1);
        Due.is("dropStop", y.dropStop(0), 0);
        Due.is("dropStop is recorded", y.count(19), 2);
    }

    private static void othersAreNotRecorded() {
        Watched x = new Watched();
        x.field(0, 9, 9, 0);
        x.ofField(0, 1);
        x.ofGrower(0, 1);
        x.load(0, 0);
        x.count(0);
        x.fields(0);
        x.next();
        x.then(1, 0);
        x.leastTrucks(1);
        x.stopCosts(1, 0);
        x.put('d');
        x.fault();
        x.carryOut();
        x.wipe();
        x.save(0);
        x.save(1);
        Due.is("one change", x.count(19), 1);
        Due.is("and it is undone", x.undo(), 0);
        Due.is("no field", x.count(1), 0);
        Due.is("undo is none either", x.undo(), NOT_POSSIBLE);
    }

    private static void historyOf0To6() {
        for (int changes = 0; changes <= 8; changes++) {
            Watched x = new Watched();
            for (int i = 1; i <= changes; i++) x.quota(0, i);
            int kept = Math.min(6, changes);
            Due.is("states after " + changes, x.count(19), kept);
            for (int left = kept - 1; left >= 0; left--) Due.is("undo after " + changes, x.undo(), left);
            Due.is("no state is left", x.undo(), NOT_POSSIBLE);
            Due.is("nothing changed by that", x.ofGrower(0, 0), changes <= 6 ? 100 : changes - 6);
            Due.is("no state", x.count(19), 0);
        }
    }

    private static void seventhDropsTheOldest() {
        Watched x = new Watched();
        for (int i = 1; i <= 6; i++) x.quota(0, i);
        x.quota(0, 7);
        for (int i = 6; i >= 1; i--) {
            x.undo();
            Due.is("undone", x.ofGrower(0, 0), i);
        }
        Due.is("the first state of all is dropped", x.undo(), NOT_POSSIBLE);
        Due.is("so 1 stays", x.ofGrower(0, 0), 1);
    }

    private static void refusedDropsNone() {
        Watched x = new Watched();
        for (int i = 1; i <= 6; i++) x.quota(0, i);
        x.quota(0, -1);
        x.quota(6, 1);
        x.set(9, 9);
        x.lend(0, 0, 1);
        x.lend(0, 1, 999);
        x.field(0, 0, 0, 0);
        x.stop(1, 0);
        x.dropStop(0);
        x.pass(0);
        x.carryOut();
        x.restore(0);
        x.restore(2);
        x.save(2);
        Due.is("six states", x.count(19), 6);
        for (int i = 5; i >= 0; i--) {
            Due.is("undo", x.undo(), i);
            Due.is("as it was", x.ofGrower(0, 0), i == 0 ? 100 : i);
        }
    }

    private static void sameValueIsRecorded() {
        Watched x = new Watched();
        Due.is("set", x.set(TRUCKS, 4), 4);
        Due.is("quota", x.quota(0, 100), 100);
        Due.is("two changes", x.count(19), 2);
        x.save(0);
        x.restore(0);
        Due.is("restore of the same", x.count(19), 3);
        Due.is("undo", x.undo(), 2);
    }

    /** Some thirty changes, some of them undone: each place of the history is used again and again. */
    private static void undoAndChangeByTurns() {
        Watched x = new Watched();
        int[] values = new int[64];
        values[0] = 100;
        int top = 0, states = 0;
        for (int turn = 0; turn < 30; turn++) {
            for (int i = 0; i <= turn % 4; i++) {
                top++;
                values[top] = 1000 + 10 * turn + i;
                x.quota(0, values[top]);
                states = Math.min(6, states + 1);
            }
            for (int i = 0; i < turn % 3 && states > 0; i++) {
                top--;
                states--;
                Due.is("undo in turn " + turn, x.undo(), states);
                Due.is("the quota in turn " + turn, x.ofGrower(0, 0), values[top]);
            }
            Due.is("states in turn " + turn, x.count(19), states);
        }
    }

    private static void undoKeepsPadAndSlots() {
        Watched x = new Watched();
        x.put('d');
        x.quota(0, 5);
        x.save(0);
        x.put('4');
        x.undo();
        Due.is("the pad", x.count(18), 2);
        Due.is("what was put stays", x.carryOut(), 1);
        Due.is("4 days", x.count(0), 4);
        Due.is("the slot", x.restore(0), 0);
        Due.is("its quota", x.ofGrower(0, 0), 5);
        Due.is("its day", x.count(0), 0);
        x.undo();
        x.undo();
        Due.is("the text does not come back", x.count(18), 0);
        Due.is("day 0", x.count(0), 0);
    }

    private static void undoOfTheTenthPass() {
        Watched x = new Watched();
        for (int i = 0; i < 10; i++) x.pass(99);
        x.pass(10);
        Due.is("undo from 1000", x.undo(), 5);
        Due.is("990", x.count(0), 990);
        Due.is("and again", x.pass(10), 1000);
    }

    // ---- save and restore

    private static void saveIsNoChange() {
        Scene s = Scenes.DAY_999;
        Due.is("fields", s.made().save(0), 1);
        Due.is("fields", Scenes.FULL.made().save(1), 30);
        Due.is("fields", Scenes.FRESH.made().save(1), 0);
        Watched x = s.made();
        x.save(0);
        x.save(1);
        Due.is("the history stays", x.count(19), 6);
        x.undo();
        Due.is("the change before is undone", x.count(0), 990);
    }

    private static void saveKeepsAsItWas() {
        Watched x = new Watched();
        x.field(0, 20, 50, 0);
        x.set(TRUCKS, 1);
        x.save(0);
        x.pass(3);
        x.quota(0, 1);
        x.stop(9, 9);
        x.undo();
        x.set(TRUCKS, 9);
        Due.is("restore", x.restore(0), 1);
        Due.is("day", x.count(0), 0);
        Due.is("tonnes on it", x.ofField(0, 5), 20);
        Due.is("quota", x.ofGrower(0, 0), 100);
        Due.is("stops", x.count(2), 0);
        Due.is("trucks", x.count(11), 1);
        Due.is("loads", x.count(9), 0);
    }

    private static void savedAgain() {
        Watched x = new Watched();
        for (int quota = 1; quota <= 5; quota++) {
            x.quota(0, quota);
            Due.is("saved", x.save(0), quota - 1);
            x.field(0, 1, 1, 0);
        }
        Due.is("what was saved last", x.restore(0), 4);
        Due.is("its quota", x.ofGrower(0, 0), 5);
        x.quota(0, 77);
        x.save(0);
        x.quota(0, 78);
        x.restore(0);
        Due.is("saved once more", x.ofGrower(0, 0), 77);
    }

    /** An earlier day, fewer fields, stops and loads overwrite what was saved as well. */
    private static void savedLessOverMore() {
        Watched x = new Watched();
        x.field(0, 99, 50, 0);
        x.stop(0, 9);
        x.pass(2);
        Due.is("a field", x.save(0), 1);
        x.undo();
        x.save(1);
        x.undo();
        x.undo();
        Due.is("no field", x.save(0), 0);
        x.restore(1);
        int[] one = {0, 1, 1, 0, 0};
        for (int what = 0; what < one.length; what++) Due.is("slot 1, count " + what, x.count(what), one[what]);
        Due.is("no field", x.restore(0), 0);
        for (int what = 0; what < one.length; what++) Due.is("slot 0, count " + what, x.count(what), 0);
        Due.is("no load so far", x.count(9), 0);
        x.pass(1);
        Due.is("no stop", x.count(10), 0);
    }

    private static void slotsAreTwo() {
        Watched x = new Watched();
        x.quota(0, 1);
        x.save(0);
        Due.is("the other one is empty", x.restore(1), NOT_POSSIBLE);
        x.quota(0, 2);
        x.save(1);
        x.quota(0, 3);
        x.restore(0);
        Due.is("slot 0", x.ofGrower(0, 0), 1);
        x.restore(1);
        Due.is("slot 1", x.ofGrower(0, 0), 2);
        x.restore(0);
        Due.is("slot 0 again", x.ofGrower(0, 0), 1);
        x.save(1);
        x.quota(0, 4);
        x.restore(1);
        Due.is("one is saved in the other one", x.ofGrower(0, 0), 1);
    }

    private static void slotWithoutFields() {
        Watched x = new Watched();
        Due.is("no field", x.save(1), 0);
        x.field(0, 1, 1, 0);
        Due.is("is not nothing", x.restore(1), 0);
        Due.is("no field", x.count(1), 0);
        Due.is("no field", x.ofField(0, 0), NO_SUCH);
        Due.is("two changes", x.count(19), 2);
    }

    private static void restoreTwice() {
        Watched x = new Watched();
        x.field(0, 30, 50, 0);
        x.save(0);
        for (int i = 1; i <= 3; i++) {
            x.pass(i);
            x.set(MILL, i);
            Due.is("restore", x.restore(0), 1);
            Due.is("the slot keeps it: day", x.count(0), 0);
            Due.is("the slot keeps it: tonnes", x.ofField(0, 5), 30);
            Due.is("the slot keeps it: mill", x.count(13), 60);
        }
        Due.is("a new field behind it", x.field(1, 7, 7, 0), 1);
        Due.is("restore", x.restore(0), 1);
    }

    private static void restoreIsAChange() {
        Watched x = new Watched();
        x.save(0);
        for (int i = 1; i <= 6; i++) x.quota(0, i);
        x.restore(0);
        Due.is("the oldest state is dropped", x.count(19), 6);
        for (int i = 6; i >= 1; i--) {
            Due.is("undo", x.undo(), i - 1);
            Due.is("the quota", x.ofGrower(0, 0), i);
        }
        Due.is("no more", x.undo(), NOT_POSSIBLE);
    }

    private static void undoBehindRestore() {
        Watched x = new Watched();
        x.field(0, 30, 50, 0);
        x.save(0);
        x.pass(3);
        x.field(1, 3, 5, 9);
        x.stop(4, 4);
        x.restore(0);
        Due.is("undo", x.undo(), 4);
        Due.is("fields", x.count(1), 2);
        Due.is("day", x.count(0), 3);
        Due.is("stops", x.count(2), 1);
        Due.is("the field", x.ofField(1, 3), 9);
        Due.is("crushed", x.count(5), 30);
        Due.is("the slot keeps its own", x.restore(0), 1);
        Due.is("crushed", x.count(5), 0);
        x.undo();
        x.undo();
        Due.is("and the one before", x.count(2), 0);
        x.undo();
        Due.is("and the one before", x.count(1), 1);
    }

    private static void restoreKeepsPadAndHistory() {
        Watched x = new Watched();
        x.put('d');
        x.quota(0, 5);
        x.save(0);
        x.put('8');
        x.quota(0, 6);
        x.quota(0, 7);
        x.restore(0);
        Due.is("the pad stays", x.count(18), 2);
        Due.is("the history stays, and one more", x.count(19), 4);
        Due.is("the text stays", x.carryOut(), 1);
        Due.is("8 days", x.count(0), 8);
        x.undo();
        x.undo();
        Due.is("behind restore", x.ofGrower(0, 0), 7);
        x.undo();
        Due.is("the one before", x.ofGrower(0, 0), 6);
    }

    /** Nothing of the greater one may stay where the smaller one was restored. */
    private static void restoreOfMoreAndLess() {
        Watched x = new Watched();
        x.field(0, 5, 50, 0);
        x.stop(0, 0);
        x.save(0);
        for (int i = 1; i < 30; i++) x.field(i % 6, 10, 50, 0);
        for (int i = 1; i < 5; i++) x.stop(i, i);
        x.pass(1);
        x.save(1);
        Due.is("the lesser", x.restore(0), 1);
        Due.is("no second field", x.ofField(1, 0), NO_SUCH);
        Due.is("one stop", x.count(2), 1);
        Due.is("no load", x.load(0, 0), NO_SUCH);
        Due.is("no tonne in the yard", x.count(3), 0);
        Due.is("a new field", x.field(5, 7, 7, 9), 1);
        int[] fresh = {5, 7, 7, 9, 0, 7, 0, 0, 0, 7};
        for (int what = 0; what < 10; what++) Due.is("a new field, " + what, x.ofField(1, what), fresh[what]);
        Due.is("a new stop", x.stop(7, 7), 1);
        x.pass(3);
        Due.is("the other stops are gone", x.count(10), 1);
        Due.is("the greater", x.restore(1), 30);
        Due.is("30th field", x.ofField(29, 1), 10);
        Due.is("five stops", x.count(2), 5);
        Due.is("four loads", x.count(4), 4);
        x.pass(4);
        Due.is("five stopped days", x.count(10), 5);
    }

    private static void fieldIs(String told, Watched x, int... want) {
        for (int what = 0; what < want.length; what++) {
            Due.is(told + ", ofField(0, " + what + ")", x.ofField(0, what), want[what]);
        }
    }

    private static Watched withALostField() {
        Watched x = new Watched();
        x.set(TRUCKS, 1);
        x.set(OLD, 1);
        x.set(MILL, 7);
        x.field(2, 31, 90, 0);
        x.pass(3);
        fieldIs("20 brought, 11 lost", x, 2, 31, 90, 0, 3, 0, 0, 20, 11, 66);
        return x;
    }

    /** Each number of a field is brought back, where another one stands at its place. */
    private static void restoreOverAnotherField() {
        Watched x = withALostField();
        x.save(0);
        x.pass(1);
        x.undo();
        x.undo();
        x.undo();
        Due.is("no field", x.count(1), 0);
        x.field(4, 300, 50, 9);
        fieldIs("nothing of the undone one stays", x, 4, 300, 50, 9, 0, 300, 0, 0, 0, 50);
        x.restore(0);
        fieldIs("as saved", x, 2, 31, 90, 0, 3, 0, 0, 20, 11, 66);
        x.undo();
        fieldIs("as before", x, 4, 300, 50, 9, 0, 300, 0, 0, 0, 50);
        x.field(3, 3, 3, 3);
        x.pass(10);
        fieldIs("and it goes on", x, 4, 300, 50, 9, 1, 290, 3, 7, 0, 42);
    }

    private static void undoOfALostField() {
        Watched x = withALostField();
        x.undo();
        fieldIs("before the days", x, 2, 31, 90, 0, 1, 31, 0, 0, 0, 90);
        x.pass(1);
        fieldIs("the first of them", x, 2, 31, 90, 0, 1, 21, 3, 7, 0, 82);
        x.undo();
        x.undo();
        x.field(2, 9, 90, 1);
        fieldIs("another one", x, 2, 9, 90, 1, 0, 9, 0, 0, 0, 90);
    }

    /** The empty slot of the beginning leaves no number of the fields that were there. */
    private static void fieldBehindAnEmptySlot() {
        Watched x = new Watched();
        x.save(1);
        x.set(TRUCKS, 1);
        x.set(OLD, 1);
        x.set(MILL, 7);
        x.field(2, 31, 90, 0);
        x.pass(2);
        fieldIs("in the yard and crushed", x, 2, 31, 90, 0, 1, 11, 6, 14, 0, 74);
        x.restore(1);
        x.field(5, 8, 7, 0);
        fieldIs("anew", x, 5, 8, 7, 0, 1, 8, 0, 0, 0, 7);
        x.undo();
        x.undo();
        x.pass(1);
        fieldIs("lost", x, 2, 31, 90, 0, 3, 0, 0, 20, 11, 66);
        x.restore(1);
        x.field(1, 6, 5, 4);
        fieldIs("anew", x, 1, 6, 5, 4, 0, 6, 0, 0, 0, 5);
        x.pass(6);
        fieldIs("and it is brought", x, 1, 6, 5, 4, 2, 0, 0, 6, 0, 0);
    }

    private static void restoreOf400Loads() {
        Scenes.FULL.isAlso("restored and undone, but for the state that was dropped", () -> {
            Watched x = Scenes.FULL.made();
            x.undo();
            x.pass(20);
            return x;
        });
        Watched x = Scenes.FULL.made();
        Due.is("the slot of 400 loads", x.restore(1), 30);
        Due.is("400 loads", x.count(4), 400);
        Due.is("the last one", x.load(399, 2), 19);
        x.restore(0);
        Due.is("the slot without a load", x.count(4), 0);
        x.undo();
        Due.is("400 loads again", x.count(4), 400);
        Due.is("the last one", x.load(399, 2), 19);
        Due.is("the first one", x.load(0, 2), 0);
    }

    private static void saveBehindUndo() {
        Watched x = new Watched();
        x.quota(0, 1);
        x.quota(0, 2);
        x.undo();
        x.save(0);
        x.quota(0, 3);
        x.restore(0);
        Due.is("as it was behind undo", x.ofGrower(0, 0), 1);
        x.undo();
        Due.is("undone", x.ofGrower(0, 0), 3);
    }
}
