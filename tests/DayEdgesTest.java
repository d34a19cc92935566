/** The boundary cases of fields, of a day and of stops, each sentence of the document by itself. */
public final class DayEdgesTest {
    private static final int NO_SUCH = -1, NOT_POSSIBLE = -5, NONE = -6;
    private static final int TRUCKS = 0, LOAD = 1, MILL = 2, YARD = 3, LOSS = 4, OLD = 5, PRICE = 6;
    private static final int GREEN = 0, BURNT = 1, EMPTY = 2, LOST = 3;

    public static void main(String[] args) {
        greenUntilItsDay();
        burntOnTheDayOfNow();
        emptyWithItsLastLoad();
        emptyIsNeverLost();
        lostWithWhatIsLeft();
        thirtyFieldsInASet();
        oldOfEachRange();
        oldChangedInTime();
        lostFieldsOfOneDay();
        tonnesOnBurntFields();
        lostIsNotHeldUp();
        purityDownTo0();
        lossOfItsRange();
        trucksOfTheirRange();
        loadOfItsRange();
        burntFirstGoesFirst();
        greatestQuotaOfTheSameDay();
        lowestNumberOfTheSameQuota();
        nothingElseDecides();
        burntFirstForAnyLoss();
        quotaOf0And1();
        quotaEndsWithinTheDay();
        loadCutByTheField();
        loadCutByTheQuota();
        loadCutByTheRoom();
        loadCutByTheLeastOfAll();
        yardFullAndEmpty();
        yardAboveItsSetting();
        yardOf400();
        loadGoesToTheEnd();
        millLessThanALoad();
        millAtAndBeyondALoad();
        millAtAndBeyondTheQueue();
        millOf1And200();
        sugarIsRoundedByLoadAndDay();
        payIsRoundedByItself();
        priceOfItsRange();
        oldCaneInTheYard();
        allThatCanBeBrought();
        stopOfOneDay();
        stopsAtTheEndsOfTime();
        stopsOverEachOther();
        stopDroppedFirstMiddleLast();
        stopsBehindMoveUpWhole();
        stoppedWithAnEmptyYard();
        days999And1000();
        Due.end("DayEdgesTest");
    }

    private static void numbers(String told, Watched x, int field, int... want) {
        for (int what = 0; what < want.length; what++) {
            Due.is(told + ", ofField(" + field + ", " + (what + 4) + ")", x.ofField(field, what + 4), want[what]);
        }
    }

    private static void queue(String told, Watched x, int... tonnes) {
        Due.is(told + ": loads", x.count(4), tonnes.length);
        int sum = 0;
        for (int place = 0; place < tonnes.length; place++) {
            Due.is(told + ": load " + place, x.load(place, 1), tonnes[place]);
            sum += tonnes[place];
        }
        Due.is(told + ": tonnes", x.count(3), sum);
        Due.is(told + ": behind the last", x.load(tonnes.length, 1), NO_SUCH);
    }

    private static void queueOfFields(String told, Watched x, int... fields) {
        Due.is(told + ": loads", x.count(4), fields.length);
        for (int place = 0; place < fields.length; place++) {
            Due.is(told + ": field of load " + place, x.load(place, 0), fields[place]);
        }
    }

    // ---- how a field is

    private static void greenUntilItsDay() {
        Watched x = Watched.mill(TRUCKS, 1);
        x.field(3, 25, 50, 2);
        for (int day = 0; day < 2; day++) {
            numbers("green on day " + day, x, 0, GREEN, 25, 0, 0, 0, 50);
            Due.is("a green one is in the set", x.fields(GREEN), 1);
            Due.is("in no other", x.fields(BURNT) + x.fields(EMPTY) + x.fields(LOST), 0);
            Due.is("none is next", x.next(), NONE);
            Due.is("no tonnes on burnt fields", x.ofGrower(3, 5), 0);
            x.pass(1);
        }
        numbers("burnt on its day", x, 0, BURNT, 25, 0, 0, 0, 50);
        Due.is("in the set", x.fields(BURNT), 1);
        Due.is("not green", x.fields(GREEN), 0);
        Due.is("is next", x.next(), 0);
        Due.is("tonnes on burnt fields", x.ofGrower(3, 5), 25);
        Due.is("none was brought before", x.count(9), 0);
        x.pass(1);
        numbers("a load was brought on its day", x, 0, BURNT, 15, 0, 10, 0, 42);
    }

    private static void burntOnTheDayOfNow() {
        Watched x = Watched.mill();
        x.pass(7);
        x.field(0, 10, 50, 7);
        x.field(0, 10, 50, 8);
        numbers("of now", x, 0, BURNT, 10, 0, 0, 0, 50);
        numbers("of the day after", x, 1, GREEN, 10, 0, 0, 0, 50);
        x.pass(1);
        Due.is("the one of now was brought", x.ofField(0, 4), EMPTY);
        Due.is("the other one is burnt", x.ofField(1, 4), BURNT);
    }

    private static void emptyWithItsLastLoad() {
        Watched x = Watched.mill(TRUCKS, 1, MILL, 1);
        x.field(0, 11, 50, 0);
        x.pass(1);
        numbers("a tonne is on it", x, 0, BURNT, 1, 9, 1, 0, 42);
        Due.is("a tonne", x.ofGrower(0, 5), 1);
        x.pass(1);
        numbers("empty, though its cane is in the yard", x, 0, EMPTY, 0, 9, 2, 0, 34);
        Due.is("in the set", x.fields(EMPTY), 1);
        Due.is("not burnt", x.fields(BURNT), 0);
        Due.is("no tonne", x.ofGrower(0, 5), 0);
        Due.is("none is next", x.next(), NONE);
        x.pass(9);
        numbers("empty when all is crushed", x, 0, EMPTY, 0, 0, 11, 0, 0);
    }

    private static void emptyIsNeverLost() {
        Watched x = Watched.mill(OLD, 1, MILL, 1);
        x.field(0, 9, 50, 0);
        x.pass(1);
        Due.is("empty", x.ofField(0, 4), EMPTY);
        x.pass(20);
        numbers("empty still", x, 0, EMPTY, 0, 0, 9, 0, 0);
        Due.is("nothing is lost", x.count(7), 0);
        Due.is("none is lost", x.fields(LOST), 0);
    }

    private static void lostWithWhatIsLeft() {
        Watched x = Watched.mill(OLD, 1, TRUCKS, 1, MILL, 4);
        x.field(2, 21, 50, 0);
        x.pass(2);
        numbers("a tonne is left", x, 0, BURNT, 1, 12, 8, 0, 34);
        x.pass(1);
        numbers("the tonne is lost", x, 0, LOST, 0, 8, 12, 1, 26);
        Due.is("told as lost", x.count(7), 1);
        Due.is("of the grower", x.ofGrower(2, 3), 1);
        Due.is("in the set", x.fields(LOST), 1);
        Due.is("not empty", x.fields(EMPTY), 0);
        Due.is("no tonne", x.ofGrower(2, 5), 0);
        x.pass(2);
        numbers("lost still, all else is crushed", x, 0, LOST, 0, 0, 20, 1, 10);
        Due.is("lost once", x.count(7), 1);
    }

    private static void thirtyFieldsInASet() {
        Watched x = Watched.mill(TRUCKS, 0, OLD, 1);
        Due.is("no field", x.fields(GREEN) | x.fields(BURNT) | x.fields(EMPTY) | x.fields(LOST), 0);
        Due.is("no field", x.count(1), 0);
        for (int field = 0; field < 30; field++) x.field(field % 6, 5, 5, field / 10);
        long ten = (1L << 10) - 1;
        Due.is("thirty", x.count(1), 30);
        Due.is("the first ten are burnt", x.fields(BURNT), ten);
        Due.is("the others are green", x.fields(GREEN), ten << 10 | ten << 20);
        x.pass(3);
        Due.is("the first ten are lost", x.fields(LOST), ten);
        Due.is("the others are burnt", x.fields(BURNT), ten << 10 | ten << 20);
        Due.is("the first burnt of the greatest quota", x.next(), 10);
        x.pass(2);
        Due.is("all are lost", x.fields(LOST), (1L << 30) - 1);
        Due.is("all tonnes", x.count(7), 150);
        Due.is("5 fields of the last grower", x.ofGrower(5, 3), 25);
    }

    // ---- 1: what is lost

    private static void oldOfEachRange() {
        for (int old : new int[] {1, 2, 5, 19, 20}) {
            Watched x = Watched.mill(TRUCKS, 0, OLD, old);
            x.pass(3);
            x.field(4, 300, 50, 3);
            x.pass(old);
            Due.is("of exactly OLD days", x.ofField(0, 4), BURNT);
            x.pass(1);
            Due.is("a day of exactly OLD days loses nothing", x.ofField(0, 4), BURNT);
            Due.is("nothing is lost", x.count(7), 0);
            Due.is("one day more: it would be lost now", x.then(1, 0), 300);
            x.pass(1);
            numbers("OLD and a day more", x, 0, LOST, 0, 0, 0, 300);
            Due.is("all is lost", x.count(7), 300);
            Due.is("of the grower", x.ofGrower(4, 3), 300);
        }
        Watched y = Watched.mill(TRUCKS, 1, OLD, 3);
        y.field(0, 50, 50, 0);
        y.pass(4);
        Due.is("of exactly OLD days it is brought", y.ofField(0, 5), 10);
        y.pass(1);
        Due.is("a day more: it is not", y.count(9), 4);
    }

    private static void oldChangedInTime() {
        Watched x = Watched.mill(TRUCKS, 0, OLD, 5);
        x.field(0, 10, 50, 0);
        x.field(0, 20, 50, 1);
        x.pass(6);
        x.set(OLD, 6);
        x.pass(1);
        Due.is("OLD became more: kept", x.count(7), 0);
        x.set(OLD, 20);
        x.pass(14);
        Due.is("of 20 and 19 days", x.count(7), 0);
        x.set(OLD, 1);
        Due.is("OLD became less: not before a day passes", x.count(7), 0);
        Due.is("burnt till then", x.fields(BURNT), 3);
        x.pass(1);
        Due.is("both are lost", x.count(7), 30);
    }

    private static void lostFieldsOfOneDay() {
        Watched x = Watched.mill(TRUCKS, 0, OLD, 1);
        x.field(0, 1, 50, 0);
        x.field(1, 20, 50, 0);
        x.field(0, 300, 50, 0);
        x.field(5, 4, 50, 1);
        x.pass(2);
        Due.is("none yet", x.count(7), 0);
        x.pass(1);
        Due.is("three at once", x.count(7), 321);
        Due.is("of grower 0", x.ofGrower(0, 3), 301);
        Due.is("of grower 1", x.ofGrower(1, 3), 20);
        Due.is("of grower 5", x.ofGrower(5, 3), 0);
        Due.is("three are lost", x.fields(LOST), 7);
        Due.is("the quota is as it was", x.ofGrower(0, 0), 100);
        Due.is("nothing was brought", x.ofGrower(0, 1), 0);
    }

    private static void tonnesOnBurntFields() {
        Watched x = Watched.mill(TRUCKS, 1, OLD, 1);
        Due.is("no field", x.ofGrower(0, 5), 0);
        x.field(0, 15, 50, 0);
        x.field(1, 300, 50, 0);
        x.field(0, 7, 50, 0);
        x.field(0, 4, 50, 1);
        Due.is("two of the grower, a green one does not count", x.ofGrower(0, 5), 22);
        Due.is("one of the other", x.ofGrower(1, 5), 300);
        x.pass(1);
        Due.is("a load less, and the one that became burnt", x.ofGrower(0, 5), 16);
        x.set(TRUCKS, 0);
        x.pass(2);
        Due.is("what was lost does not count", x.ofGrower(0, 5), 4);
        x.pass(1);
        Due.is("all is lost", x.ofGrower(0, 5), 0);
    }

    /** Neither a stop nor a full yard nor a quota of 0 keeps cane; what is in the yard is never lost. */
    private static void lostIsNotHeldUp() {
        Watched x = Watched.mill(OLD, 1, YARD, 5);
        x.field(0, 10, 50, 0);
        x.field(1, 10, 50, 0);
        x.quota(1, 0);
        x.stop(0, 9);
        x.pass(3);
        numbers("5 came into the yard", x, 0, LOST, 0, 5, 0, 5);
        numbers("none of a quota of 0", x, 1, LOST, 0, 0, 0, 10);
        x.pass(7);
        queue("it waits", x, 5);
        Due.is("what is in the yard is not lost", x.count(7), 15);
    }

    // ---- purity

    private static void purityDownTo0() {
        Watched x = Watched.mill(TRUCKS, 0, OLD, 20, LOSS, 8);
        x.field(0, 10, 40, 0);
        x.field(0, 10, 41, 0);
        x.field(0, 10, 39, 0);
        x.field(0, 10, 100, 0);
        x.field(0, 10, 1, 9);
        int[] ofField0 = {40, 32, 24, 16, 8, 0, 0};
        for (int day = 0; day < 7; day++) {
            Due.is("40 on day " + day, x.ofField(0, 9), ofField0[day]);
            Due.is("a green one is as it is", x.ofField(4, 9), 1);
            x.pass(1);
        }
        x.undo();
        x.undo();
        Due.is("41 on day 5", x.ofField(1, 9), 1);
        Due.is("39 on day 5", x.ofField(2, 9), 0);
        Due.is("100 on day 5", x.ofField(3, 9), 60);
        for (int i = 0; i < 10; i++) x.pass(99);
        Due.is("100 on day 995", x.ofField(3, 9), 0);
        Due.is("its purity at first stays", x.ofField(3, 2), 100);
    }

    private static void lossOfItsRange() {
        Watched x = Watched.mill(TRUCKS, 0, OLD, 20, LOSS, 100);
        x.field(0, 10, 100, 0);
        Due.is("of age 0", x.ofField(0, 9), 100);
        x.pass(1);
        Due.is("of age 1", x.ofField(0, 9), 0);
        x.set(LOSS, 99);
        Due.is("99 by the day", x.ofField(0, 9), 1);
        x.set(LOSS, 0);
        for (int i = 0; i < 10; i++) x.pass(99);
        Due.is("nothing by the day", x.ofField(0, 9), 100);
        x.set(LOSS, 100);
        Due.is("of age 991", x.ofField(0, 9), 0);
    }

    // ---- 2: trucks and loads

    private static void trucksOfTheirRange() {
        for (int trucks : new int[] {0, 1, 2, 19, 20}) {
            Watched x = Watched.mill(TRUCKS, trucks, LOAD, 1);
            x.field(0, 100, 50, 0);
            x.stop(0, 9);
            x.pass(1);
            Due.is("loads of a day", x.count(4), trucks);
            Due.is("loads so far", x.count(9), trucks);
            Due.is("brought by the grower", x.ofGrower(0, 1), trucks);
            Due.is("the quota left", x.ofGrower(0, 0), 100 - trucks);
            Due.is("next all the same", x.next(), 0);
            x.pass(1);
            Due.is("as many on the day after", x.count(9), 2 * trucks);
        }
    }

    private static void loadOfItsRange() {
        for (int load : new int[] {1, 2, 29, 30}) {
            Watched x = Watched.mill(TRUCKS, 1, LOAD, load, MILL, 200);
            x.field(0, 100, 50, 0);
            x.stop(0, 0);
            x.pass(1);
            queue("a load of " + load, x, load);
            Due.is("left on the field", x.ofField(0, 5), 100 - load);
        }
    }

    private static void burntFirstGoesFirst() {
        Watched x = Watched.mill(TRUCKS, 3);
        x.pass(5);
        x.quota(0, 1000);
        x.quota(2, 11);
        x.field(0, 50, 90, 7);
        x.field(1, 50, 90, 6);
        x.field(2, 50, 90, 5);
        x.stop(5, 99);
        x.pass(2);
        queueOfFields("day 5 and 6", x, 2, 2, 1, 1, 1);
        x.pass(1);
        queueOfFields("burnt first before quota and number", x, 2, 2, 1, 1, 1, 1, 1, 0);
    }

    private static void greatestQuotaOfTheSameDay() {
        Watched x = Watched.mill(TRUCKS, 5);
        x.quota(0, 100);
        x.quota(1, 101);
        x.quota(2, 99);
        x.field(0, 99, 50, 0);
        x.field(1, 99, 50, 0);
        x.field(2, 99, 50, 0);
        x.stop(0, 9);
        Due.is("a tonne more", x.next(), 1);
        x.pass(1);
        queueOfFields("by what is left after each load", x, 1, 0, 2, 1, 0);
        Due.is("89 is above 81 and 80", x.next(), 2);
    }

    private static void lowestNumberOfTheSameQuota() {
        Watched x = Watched.mill(TRUCKS, 4);
        x.field(1, 99, 50, 0);
        x.field(0, 99, 50, 0);
        x.field(1, 99, 50, 0);
        x.field(0, 99, 50, 0);
        x.stop(0, 9);
        Due.is("all the same", x.next(), 0);
        x.pass(1);
        queueOfFields("by turns of the lowest numbers", x, 0, 1, 0, 1);
        Watched y = Watched.mill(TRUCKS, 3);
        y.field(4, 15, 50, 0);
        y.field(4, 15, 50, 0);
        y.stop(0, 9);
        y.pass(1);
        queueOfFields("two fields of one grower", y, 0, 0, 1);
        queue("two fields of one grower", y, 10, 5, 10);
    }

    /** Of the same day and quota the lowest number goes first, whatever was brought, crushed, paid or lost before. */
    private static void nothingElseDecides() {
        for (int brought = 1; brought <= 2; brought++) {
            for (int loser = 0; loser <= 1; loser++) {
                Watched x = Watched.mill(TRUCKS, 0, OLD, 1, MILL, 6);
                x.field(loser, 7, 50, 0);
                x.pass(3);
                x.field(0, 30 * brought, 40 * brought, 3);
                x.field(1, 90 - 30 * brought, 120 - 40 * brought, 3);
                x.set(TRUCKS, 1);
                x.quota(brought - 1, 9999);
                x.pass(1);
                numbers("a load of one of them", x, brought, BURNT, 20, 4, 6, 0, 32);
                Due.is("the other one waits", x.ofField(3 - brought, 6), 0);
                Due.is("one has lost", x.ofGrower(loser, 3), 7);
                x.quota(0, 100);
                x.quota(1, 100);
                Due.is("the lowest number, brought " + brought + ", lost by " + loser, x.next(), 1);
                x.quota(1, 101);
                Due.is("but not against a quota", x.next(), 2);
            }
        }
    }

    private static void burntFirstForAnyLoss() {
        for (int loss : new int[] {0, 8, 100}) {
            Watched x = Watched.mill(TRUCKS, 0, LOSS, loss);
            x.quota(0, 9999);
            x.field(0, 300, 100, 1);
            x.field(1, 1, 1, 0);
            x.pass(1);
            Due.is("burnt first, by a LOSS of " + loss, x.next(), 1);
            x.quota(1, 0);
            Due.is("without a quota the other one", x.next(), 0);
        }
    }

    private static void quotaOf0And1() {
        Watched x = Watched.mill();
        x.quota(0, 0);
        x.field(0, 10, 50, 0);
        Due.is("a quota of 0", x.next(), NONE);
        x.pass(1);
        Due.is("no load", x.count(9), 0);
        x.quota(0, 1);
        Due.is("a quota of 1", x.next(), 0);
        x.pass(1);
        Due.is("one load", x.count(9), 1);
        numbers("of a tonne", x, 0, BURNT, 9, 0, 1);
        Due.is("a quota of 0 again", x.ofGrower(0, 0), 0);
        Due.is("none", x.next(), NONE);
        x.quota(0, 9999);
        x.pass(1);
        Due.is("a quota of 9999", x.ofGrower(0, 0), 9990);
        Due.is("brought so far", x.ofGrower(0, 1), 10);
    }

    private static void quotaEndsWithinTheDay() {
        Watched x = Watched.mill(TRUCKS, 4);
        x.quota(0, 15);
        x.quota(1, 5);
        x.field(0, 99, 50, 0);
        x.field(1, 99, 50, 0);
        x.stop(0, 9);
        x.pass(1);
        queueOfFields("15 of one, 5 of the other", x, 0, 0, 1);
        queue("15 of one, 5 of the other", x, 10, 5, 5);
        Due.is("no field is next", x.next(), NONE);
        x.pass(1);
        Due.is("no more loads", x.count(9), 3);
    }

    private static void loadCutByTheField() {
        int[][] due = {{9}, {10}, {10, 1}};
        for (int i = 0; i < 3; i++) {
            Watched x = Watched.mill();
            x.field(0, 9 + i, 50, 0);
            x.stop(0, 0);
            x.pass(1);
            queue("a field of " + (9 + i), x, due[i]);
            Due.is("empty", x.ofField(0, 4), EMPTY);
            Due.is("the quota left", x.ofGrower(0, 0), 91 - i);
        }
        Watched one = Watched.mill();
        one.field(0, 1, 50, 0);
        one.stop(0, 0);
        one.pass(1);
        queue("a field of a tonne", one, 1);
    }

    private static void loadCutByTheQuota() {
        int[][] due = {{9}, {10}, {10, 1}};
        for (int i = 0; i < 3; i++) {
            Watched x = Watched.mill();
            x.quota(0, 9 + i);
            x.field(0, 50, 50, 0);
            x.stop(0, 0);
            x.pass(1);
            queue("a quota of " + (9 + i), x, due[i]);
            Due.is("no quota is left", x.ofGrower(0, 0), 0);
            Due.is("left on the field", x.ofField(0, 5), 41 - i);
        }
    }

    private static void loadCutByTheRoom() {
        int[][] due = {{9}, {10}, {10, 1}};
        for (int i = 0; i < 3; i++) {
            Watched x = Watched.mill(YARD, 9 + i);
            x.field(0, 50, 50, 0);
            x.stop(0, 0);
            x.pass(1);
            queue("room for " + (9 + i), x, due[i]);
            Due.is("left on the field", x.ofField(0, 5), 41 - i);
            Due.is("the quota left", x.ofGrower(0, 0), 91 - i);
            Due.is("no room", x.next(), NONE);
        }
    }

    private static void loadCutByTheLeastOfAll() {
        int[][] cuts = {{7, 8, 9}, {7, 9, 8}, {8, 7, 9}, {9, 7, 8}, {8, 9, 7}, {9, 8, 7}, {7, 7, 7}};
        for (int[] cut : cuts) {
            Watched x = Watched.mill(TRUCKS, 1, YARD, cut[2]);
            x.field(0, cut[0], 50, 0);
            x.quota(0, cut[1]);
            x.stop(0, 0);
            x.pass(1);
            queue("the least of field, quota and room", x, 7);
        }
    }

    private static void yardFullAndEmpty() {
        Watched x = Watched.mill(YARD, 20, MILL, 200);
        x.field(0, 99, 50, 0);
        x.stop(0, 0);
        queue("an empty yard", x);
        x.pass(1);
        queue("a full yard", x, 10, 10);
        Due.is("full: none is next", x.next(), NONE);
        x.set(YARD, 21);
        Due.is("room for a tonne", x.next(), 0);
        x.set(YARD, 20);
        x.pass(1);
        queue("the mill crushes when the trucks have been there", x);
        Due.is("so none was brought", x.count(9), 2);
        Due.is("room again", x.next(), 0);
        Watched none = Watched.mill(YARD, 0);
        none.field(0, 99, 50, 0);
        Due.is("a yard of 0", none.next(), NONE);
        none.pass(5);
        Due.is("nothing is brought to it", none.count(9), 0);
    }

    private static void yardAboveItsSetting() {
        Watched x = Watched.mill(YARD, 30, MILL, 7);
        x.field(0, 99, 50, 0);
        x.stop(0, 0);
        x.pass(1);
        Due.is("YARD below what is there", x.set(YARD, 15), 30);
        queue("all stays", x, 10, 10, 10);
        Due.is("none is next", x.next(), NONE);
        x.pass(1);
        queue("30 less 7", x, 3, 10, 10);
        x.pass(1);
        queue("23 less 7", x, 6, 10);
        Due.is("16 in a yard of 15", x.next(), NONE);
        x.set(MILL, 1);
        x.pass(1);
        queue("16 less 1, nothing was brought", x, 5, 10);
        Due.is("15 in a yard of 15", x.next(), NONE);
        Due.is("loads so far", x.count(9), 3);
        x.pass(1);
        queue("15 less 1", x, 4, 10);
        Due.is("14 in a yard of 15", x.next(), 0);
        x.pass(1);
        queue("a load of 1, and 1 is crushed", x, 3, 10, 1);
        x.set(YARD, 0);
        queue("a yard of 0 keeps it too", x, 3, 10, 1);
        x.set(MILL, 200);
        x.pass(1);
        queue("and it is crushed", x);
        Due.is("31", x.count(5), 31);
    }

    private static void yardOf400() {
        Watched x = Watched.mill(YARD, 400, LOAD, 1, TRUCKS, 20, OLD, 20, MILL, 1);
        x.quota(0, 401);
        x.field(0, 300, 100, 0);
        x.field(0, 300, 100, 0);
        x.stop(0, 19);
        x.pass(20);
        Due.is("400 loads", x.count(4), 400);
        Due.is("400 tonnes", x.count(3), 400);
        Due.is("a place before the last", x.load(399, 1), 1);
        Due.is("behind it", x.load(400, 1), NO_SUCH);
        x.pass(1);
        Due.is("a tonne is crushed", x.count(4), 399);
        x.pass(1);
        Due.is("the quota's last tonne came too late for it", x.count(7), 200);
        Due.is("so 398", x.count(3), 398);
        Due.is("the last load", x.load(397, 2), 19);
        Due.is("its field", x.load(397, 0), 1);
        Due.is("the quota left", x.ofGrower(0, 0), 1);
        x.set(MILL, 200);
        x.pass(2);
        Due.is("all is crushed", x.count(4), 0);
        Due.is("400", x.count(5), 400);
    }

    private static void loadGoesToTheEnd() {
        Watched x = Watched.mill(TRUCKS, 1, MILL, 3);
        x.field(0, 99, 50, 0);
        x.pass(1);
        x.field(1, 99, 50, 1);
        x.quota(0, 0);
        x.pass(1);
        queue("first what came first", x, 4, 10);
        queueOfFields("first what came first", x, 0, 1);
        Due.is("its day", x.load(0, 2), 0);
        Due.is("the other's day", x.load(1, 2), 1);
    }

    // ---- 3: the mill

    private static void millLessThanALoad() {
        Watched x = Watched.mill(TRUCKS, 1, MILL, 9, LOSS, 0);
        x.field(0, 20, 50, 0);
        x.pass(1);
        queue("9 of 10", x, 1);
        Due.is("9", x.count(5), 9);
        numbers("9 of 10", x, 0, BURNT, 10, 1, 9);
        x.pass(1);
        queue("1 of the first, 8 of the second", x, 2);
        Due.is("the second's day", x.load(0, 2), 1);
        Due.is("sugar of 9, 1 and 8 tonnes", x.count(6), 4 + 0 + 4);
        x.pass(1);
        queue("2 are all that there are", x);
        Due.is("20", x.count(5), 20);
        Due.is("and a tonne's sugar more", x.count(6), 9);
    }

    private static void millAtAndBeyondALoad() {
        int[][] due = {{10}, {9}, {1}};
        int[] mills = {10, 11, 19};
        for (int i = 0; i < 3; i++) {
            Watched x = Watched.mill(TRUCKS, 2, MILL, mills[i]);
            x.field(0, 20, 50, 0);
            x.pass(1);
            queue("a mill of " + mills[i], x, due[i]);
        }
    }

    private static void millAtAndBeyondTheQueue() {
        for (int mill : new int[] {25, 26, 200}) {
            Watched x = Watched.mill(TRUCKS, 3, MILL, mill);
            x.field(0, 25, 50, 0);
            x.pass(1);
            queue("a mill of " + mill + ", a queue of 25", x);
            Due.is("no more than there are", x.count(5), 25);
            Due.is("of the grower", x.ofGrower(0, 2), 25);
            x.pass(1);
            Due.is("an empty queue", x.count(5), 25);
            Due.is("no sugar of it", x.count(6), 12);
        }
        Watched y = Watched.mill(TRUCKS, 3, MILL, 24);
        y.field(0, 25, 50, 0);
        y.pass(1);
        queue("a tonne less than the queue", y, 1);
    }

    private static void millOf1And200() {
        Watched x = Watched.mill(TRUCKS, 20, LOAD, 30, MILL, 1, YARD, 400);
        x.quota(0, 400);
        x.field(0, 300, 50, 0);
        x.field(0, 300, 50, 0);
        x.pass(1);
        Due.is("one", x.count(5), 1);
        Due.is("399", x.count(3), 399);
        x.set(MILL, 200);
        x.pass(1);
        Due.is("200 more", x.count(5), 201);
        Due.is("199", x.count(3), 199);
        Due.is("a part of the 7th load is left", x.load(0, 1), 9);
        x.pass(1);
        Due.is("the last 199", x.count(5), 400);
    }

    private static void sugarIsRoundedByLoadAndDay() {
        Watched byDay = Watched.mill(MILL, 1, LOSS, 0, OLD, 20);
        byDay.field(0, 10, 99, 0);
        byDay.pass(10);
        Due.is("a tonne in each of 10 days", byDay.count(6), 0);
        Due.is("all 10 are crushed", byDay.count(5), 10);
        Watched atOnce = Watched.mill(LOSS, 0);
        atOnce.field(0, 10, 99, 0);
        atOnce.pass(1);
        Due.is("10 together", atOnce.count(6), 9);
        Watched byLoad = Watched.mill(LOAD, 1, TRUCKS, 2);
        byLoad.field(0, 2, 50, 0);
        byLoad.pass(1);
        Due.is("two loads of a tonne, each by itself", byLoad.count(6), 0);
        Due.is("paid for each: 15", byLoad.count(8), 30);
        Watched just = Watched.mill(LOAD, 1);
        just.field(0, 1, 100, 0);
        just.pass(1);
        Due.is("a tonne of purity 100", just.count(6), 1);
        Watched least = Watched.mill();
        least.field(0, 1, 1, 0);
        least.pass(1);
        Due.is("a tonne of purity 1", least.count(6), 0);
        Watched greatest = Watched.mill(LOAD, 30);
        greatest.field(0, 30, 100, 0);
        greatest.pass(1);
        Due.is("30 tonnes of purity 100", greatest.count(6), 30);
    }

    /** The pay is not that of the sugar, which is rounded already. */
    private static void payIsRoundedByItself() {
        Watched x = Watched.mill(PRICE, 99);
        x.field(0, 1, 1, 0);
        x.pass(1);
        Due.is("99 / 100", x.count(8), 0);
        x.set(PRICE, 100);
        x.field(1, 1, 1, 1);
        x.pass(1);
        Due.is("100 / 100", x.ofGrower(1, 4), 1);
        x.field(2, 1, 99, 2);
        x.pass(1);
        Due.is("9900 / 100, though there is no sugar", x.ofGrower(2, 4), 99);
        Due.is("no sugar", x.count(6), 0);
        x.set(PRICE, 199);
        x.field(3, 1, 1, 3);
        x.pass(1);
        Due.is("199 / 100", x.ofGrower(3, 4), 1);
        Due.is("all that was paid", x.count(8), 101);
    }

    private static void priceOfItsRange() {
        Watched x = Watched.mill(PRICE, 0, LOAD, 30);
        x.field(0, 30, 100, 0);
        x.pass(1);
        Due.is("a price of 0", x.count(8), 0);
        Due.is("sugar all the same", x.count(6), 30);
        x.set(PRICE, 999);
        Due.is("what was paid stays", x.count(8), 0);
        x.field(1, 30, 100, 1);
        x.pass(1);
        Due.is("a price of 999", x.ofGrower(1, 4), 29970);
        x.field(1, 30, 100, 2);
        x.stop(2, 2);
        x.pass(1);
        x.set(PRICE, 1);
        x.pass(1);
        Due.is("the price of the day on which it is crushed, purity 92", x.ofGrower(1, 4), 29970 + 27);
    }

    private static void oldCaneInTheYard() {
        Watched x = Watched.mill(OLD, 1, LOSS, 10);
        x.field(0, 10, 31, 0);
        x.field(0, 10, 29, 0);
        x.stop(0, 2);
        x.pass(3);
        queue("of 3 days, OLD is 1", x, 10, 10);
        x.pass(1);
        queue("crushed as any other", x);
        Due.is("20", x.count(5), 20);
        Due.is("of purity 1 and 0: no sugar", x.count(6), 0);
        Due.is("paid 10 * 1 * 30 / 100 and nothing", x.count(8), 3);
        Due.is("nothing is lost", x.count(7), 0);
        numbers("it is empty", x, 1, EMPTY, 0, 0, 10, 0, 0);
    }

    /** 30 fields of 300 tonnes of one grower, of the greatest purity and price. */
    private static void allThatCanBeBrought() {
        Watched x = Watched.mill(TRUCKS, 20, LOAD, 30, MILL, 200, YARD, 400, LOSS, 0, OLD, 20, PRICE, 999);
        x.quota(5, 9999);
        for (int field = 0; field < 30; field++) x.field(5, 300, 100, field / 10 * 20);
        Due.is("what would be paid", x.then(300, 2), 8991000);
        Due.is("all the sugar", x.stopCosts(300, 300), 100000 + 9000);
        x.pass(99);
        int[] ofGrower = {999, 9000, 9000, 0, 8991000, 0};
        for (int what = 0; what < 6; what++) Due.is("of the grower, " + what, x.ofGrower(5, what), ofGrower[what]);
        Due.is("crushed", x.count(5), 9000);
        Due.is("sugar", x.count(6), 9000);
        Due.is("paid", x.count(8), 8991000);
        Due.is("empty", x.fields(EMPTY), (1L << 30) - 1);
        x.undo();
        x.set(TRUCKS, 0);
        Due.is("lost without trucks", x.then(300, 0), 9000);
        x.pass(99);
        Due.is("lost of the grower", x.ofGrower(5, 3), 9000);
        Due.is("lost", x.count(7), 9000);
        Due.is("all are lost", x.fields(LOST), (1L << 30) - 1);
    }

    // ---- stops

    private static void stopOfOneDay() {
        Watched x = Watched.mill(MILL, 1);
        x.field(0, 99, 50, 0);
        x.stop(2, 2);
        int[] crushed = {1, 2, 2, 3, 4};
        int[] stopped = {0, 0, 1, 1, 1};
        for (int day = 0; day < 5; day++) {
            x.pass(1);
            Due.is("crushed by day " + day, x.count(5), crushed[day]);
            Due.is("stopped by day " + day, x.count(10), stopped[day]);
        }
        Watched y = Watched.mill(MILL, 1);
        y.field(0, 99, 50, 0);
        y.stop(1, 3);
        int[] crushedThen = {1, 1, 1, 1, 2};
        for (int day = 0; day < 5; day++) {
            y.pass(1);
            Due.is("three days, crushed by day " + day, y.count(5), crushedThen[day]);
        }
        Due.is("three days", y.count(10), 3);
    }

    private static void stopsAtTheEndsOfTime() {
        Watched x = Watched.mill();
        Due.is("0 to 0", x.stop(0, 0), 0);
        Due.is("999 to 999", x.stop(999, 999), 1);
        x.pass(1);
        Due.is("day 0", x.count(10), 1);
        for (int i = 0; i < 10; i++) x.pass(i < 9 ? 99 : 98);
        Due.is("day 990", x.count(0), 990);
        x.pass(9);
        Due.is("before day 999", x.count(10), 1);
        x.pass(1);
        Due.is("day 999", x.count(10), 2);
        Watched y = Watched.mill();
        Due.is("0 to 999", y.stop(0, 999), 0);
        for (int i = 0; i < 10; i++) y.pass(99);
        y.pass(10);
        Due.is("1000 days", y.count(10), 1000);
        Watched z = Watched.mill();
        z.pass(9);
        Due.is("a stop of days that are over", z.stop(0, 8), 0);
        Due.is("does not count", z.count(10), 0);
        z.pass(1);
        Due.is("nor later", z.count(10), 0);
        Due.is("a stop that is over in part", z.stop(0, 10), 1);
        z.pass(2);
        Due.is("one day of it", z.count(10), 1);
    }

    private static void stopsOverEachOther() {
        Watched x = Watched.mill();
        for (int stop = 0; stop < 5; stop++) Due.is("five stops", x.stop(1, 1 + stop), stop);
        x.pass(9);
        Due.is("each day counts once", x.count(10), 5);
        Due.is("five", x.count(2), 5);
        for (int left = 4; left >= 0; left--) Due.is("dropped", x.dropStop(0), left);
        Due.is("stops are none", x.count(2), 0);
        Due.is("the days stay", x.count(10), 5);
    }

    /** By the days that still count it is seen which one is gone. */
    private static void stopDroppedFirstMiddleLast() {
        for (int dropped = 0; dropped < 5; dropped++) {
            Watched x = Watched.mill();
            for (int stop = 0; stop < 5; stop++) x.stop(stop, stop);
            Due.is("four are left", x.dropStop(dropped), 4);
            Due.is("no fifth", x.dropStop(4), NO_SUCH);
            for (int day = 0; day < 5; day++) {
                int before = x.count(10);
                x.pass(1);
                Due.is("dropped " + dropped + ", day " + day, x.count(10) - before, day == dropped ? 0 : 1);
            }
            for (int day = 0; day < 5; day++) x.undo();
            Due.is("a new one goes to the end", x.stop(9, 9), 4);
            Due.is("the one behind moved up", x.dropStop(Math.min(dropped, 3)), 4);
            x.pass(5);
            Due.is("three of the first are left", x.count(10), 3);
        }
    }

    private static void stopsBehindMoveUpWhole() {
        Watched x = Watched.mill();
        x.stop(0, 0);
        x.stop(2, 4);
        x.stop(6, 7);
        Due.is("the first is dropped", x.dropStop(0), 2);
        int[] stopped = {0, 0, 1, 2, 3, 3, 4, 5, 5};
        for (int day = 0; day < stopped.length; day++) {
            x.pass(1);
            Due.is("stopped by day " + day, x.count(10), stopped[day]);
        }
    }

    private static void stoppedWithAnEmptyYard() {
        Watched x = Watched.mill();
        x.stop(0, 1);
        x.pass(3);
        Due.is("the mill was stopped", x.count(10), 2);
    }

    private static void days999And1000() {
        Watched x = Watched.mill(TRUCKS, 1);
        for (int i = 0; i < 10; i++) x.pass(99);
        x.field(0, 20, 50, 999);
        Due.is("to 999", x.pass(9), 999);
        Due.is("burnt on the last day", x.ofField(0, 4), BURNT);
        Due.is("to 1000", x.pass(1), 1000);
        Due.is("a load came on day 999", x.ofField(0, 7), 10);
        Due.is("no further", x.pass(1), NOT_POSSIBLE);
        Due.is("the day of now", x.count(0), 1000);
        Due.is("next on day 1000", x.next(), 0);
        Due.is("its purity", x.ofField(0, 9), 42);
    }
}
