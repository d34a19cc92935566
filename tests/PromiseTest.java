/** Each promise by answers that were worked out by hand from the document. */
public final class PromiseTest {
    private static final int NO_SUCH = -1, BAD_VALUE = -2, BAD_TEXT = -3, TOO_MANY = -4, NOT_POSSIBLE = -5, NONE = -6;
    private static final int TRUCKS = 0, LOAD = 1, MILL = 2, YARD = 3, LOSS = 4, OLD = 5, PRICE = 6;
    private static final int[] FAR = {Integer.MIN_VALUE, -1000, -1, 1000000, Integer.MAX_VALUE};

    public static void main(String[] args) {
        readmeExample();
        newObject();
        set();
        setYardBelowWhatIsThere();
        quota();
        lend();
        field();
        stop();
        dropStop();
        pass();
        dayOrder();
        dayRule();
        dayLoadSizes();
        dayLost();
        dayCrush();
        dayStopped();
        ofField();
        ofGrower();
        load();
        fullYard();
        count();
        fields();
        next();
        then();
        leastTrucks();
        leastTrucksInASmallYard();
        stopCosts();
        put();
        wipe();
        fault();
        carryOut();
        carryOutErrors();
        undo();
        save();
        restore();
        Due.end("PromiseTest");
    }

    /** The example of README.md, with the answers that stand there. */
    private static void readmeExample() {
        Watched mill = new Watched();
        Due.is("README: field", mill.field(0, 50, 80, 0), 0);
        Due.is("README: stop", mill.stop(2, 3), 0);
        Due.is("README: then", mill.then(5, 0), 0);
        Due.is("README: pass", mill.pass(5), 5);
        Due.is("README: sugar", mill.count(6), 39);
        Due.is("README: undo", mill.undo(), 2);
        Due.is("README: put", mill.put('d' << 8 | '1'), 2);
        Due.is("README: carryOut", mill.carryOut(), 1);
        Due.is("README: day", mill.count(0), 1);
        Due.is("README: quota", mill.quota(6, 50), NO_SUCH);
    }

    private static void newObject() {
        Watched x = new Watched();
        int[] counts = {0, 0, 0, 0, 0, 0, 0, 0, 0, 0, 0, 4, 10, 60, 100, 8, 5, 30, 0, 0};
        for (int what = 0; what < counts.length; what++) Due.is("new: count " + what, x.count(what), counts[what]);
        int[] ofGrower = {100, 0, 0, 0, 0, 0};
        for (int grower = 0; grower < 6; grower++) {
            for (int what = 0; what < 6; what++) Due.is("new: grower", x.ofGrower(grower, what), ofGrower[what]);
        }
        for (int how = 0; how < 4; how++) Due.is("new: fields " + how, x.fields(how), 0);
        Due.is("new: next", x.next(), NONE);
        Due.is("new: field", x.ofField(0, 0), NO_SUCH);
        Due.is("new: load", x.load(0, 0), NO_SUCH);
        Due.is("new: undo", x.undo(), NOT_POSSIBLE);
        Due.is("new: slot 0", x.restore(0), NOT_POSSIBLE);
        Due.is("new: slot 1", x.restore(1), NOT_POSSIBLE);
        Due.is("new: fault", x.fault(), 0);
        Due.is("new: leastTrucks", x.leastTrucks(300), 0);
    }

    private static void set() {
        int[] least = {0, 1, 1, 0, 0, 1, 0};
        int[] most = {20, 30, 200, 400, 100, 20, 999};
        int[] first = {4, 10, 60, 100, 8, 5, 30};
        Watched x = new Watched();
        for (int setting = 0; setting < 7; setting++) {
            Due.is("set below", x.set(setting, least[setting] - 1), BAD_VALUE);
            Due.is("set beyond", x.set(setting, most[setting] + 1), BAD_VALUE);
            for (int value : new int[] {Integer.MIN_VALUE, Integer.MAX_VALUE}) {
                Due.is("set far", x.set(setting, value), BAD_VALUE);
            }
            Due.is("count after errors", x.count(11 + setting), first[setting]);
            Due.is("set least", x.set(setting, least[setting]), first[setting]);
            Due.is("count least", x.count(11 + setting), least[setting]);
            Due.is("set most", x.set(setting, most[setting]), least[setting]);
            Due.is("count most", x.count(11 + setting), most[setting]);
            Due.is("set the same", x.set(setting, most[setting]), most[setting]);
        }
        for (int setting : new int[] {-1, 7, Integer.MIN_VALUE, Integer.MAX_VALUE}) {
            Due.is("set no setting", x.set(setting, 1), BAD_VALUE);
        }
        Watched y = new Watched();
        y.set(TRUCKS, 21);
        Due.is("an error is no change", y.count(19), 0);
        y.set(TRUCKS, 4);
        Due.is("the same value is a change", y.count(19), 1);
    }

    private static void setYardBelowWhatIsThere() {
        Watched x = new Watched();
        x.field(0, 50, 50, 0);
        x.stop(0, 0);
        x.pass(1);
        Due.is("in the yard", x.count(3), 40);
        Due.is("YARD below", x.set(YARD, 15), 100);
        Due.is("in the yard still", x.count(3), 40);
        Due.is("no room", x.next(), NONE);
        x.set(MILL, 10);
        x.pass(1);
        Due.is("crushed to 30", x.count(3), 30);
        Due.is("no load came", x.count(9), 4);
        x.pass(2);
        Due.is("10 there, room for 5", x.next(), 0);
        x.set(MILL, 1);
        x.pass(1);
        Due.is("a load of 5 came", x.load(1, 1), 5);
        Due.is("and no other", x.count(4), 2);
    }

    private static void quota() {
        Watched x = new Watched();
        Due.is("quota", x.quota(0, 0), 100);
        Due.is("quota most", x.quota(0, 9999), 0);
        Due.is("quota left", x.ofGrower(0, 0), 9999);
        Due.is("quota beyond", x.quota(0, 10000), BAD_VALUE);
        Due.is("quota below", x.quota(0, -1), BAD_VALUE);
        Due.is("quota of 5", x.quota(5, 7), 100);
        Due.is("quota of 6", x.quota(6, 7), NO_SUCH);
        Due.is("quota of -1", x.quota(-1, 7), NO_SUCH);
        Due.is("NO_SUCH goes first", x.quota(6, 10000), NO_SUCH);
        Due.is("nothing changed", x.ofGrower(0, 0), 9999);
        Due.is("others", x.ofGrower(1, 0), 100);
        for (int far : FAR) {
            Due.is("quota far", x.quota(0, far), BAD_VALUE);
            Due.is("grower far", x.quota(far, 1), NO_SUCH);
        }
        Due.is("3 changes", x.count(19), 3);
    }

    private static void lend() {
        Watched x = new Watched();
        Due.is("lend all", x.lend(0, 5, 100), 0);
        Due.is("gave", x.ofGrower(0, 0), 0);
        Due.is("got", x.ofGrower(5, 0), 200);
        Due.is("lend more than is left", x.lend(0, 5, 1), NOT_POSSIBLE);
        Due.is("lend 101", x.lend(1, 5, 101), NOT_POSSIBLE);
        Due.is("lend 1", x.lend(1, 5, 1), 99);
        x.quota(2, 9998);
        Due.is("to 10000", x.lend(1, 2, 2), NOT_POSSIBLE);
        Due.is("to 9999", x.lend(1, 2, 1), 98);
        Due.is("9999", x.ofGrower(2, 0), 9999);
        Due.is("beyond 9999", x.lend(1, 2, 1), NOT_POSSIBLE);
        Due.is("most tonnes", x.lend(1, 2, Integer.MAX_VALUE), NOT_POSSIBLE);
        Due.is("no tonne", x.lend(1, 3, 0), BAD_VALUE);
        Due.is("least tonnes", x.lend(1, 3, Integer.MIN_VALUE), BAD_VALUE);
        Due.is("the same", x.lend(1, 1, 1), BAD_VALUE);
        Due.is("the same goes before what is left", x.lend(0, 0, 1), BAD_VALUE);
        Due.is("BAD_VALUE goes before what is left", x.lend(0, 1, 0), BAD_VALUE);
        Due.is("no first", x.lend(6, 1, 1), NO_SUCH);
        Due.is("no other", x.lend(1, 6, 1), NO_SUCH);
        Due.is("no other below", x.lend(1, -1, 1), NO_SUCH);
        Due.is("NO_SUCH goes first", x.lend(6, 6, 0), NO_SUCH);
        Due.is("NO_SUCH goes first", x.lend(1, 6, 0), NO_SUCH);
        Due.is("4 changes", x.count(19), 4);
        Due.is("brought is none of it", x.ofGrower(0, 1), 0);
    }

    private static void field() {
        Watched x = new Watched();
        x.pass(3);
        Due.is("first", x.field(0, 1, 1, 3), 0);
        Due.is("greatest", x.field(5, 300, 100, 999), 1);
        Due.is("grower 6", x.field(6, 1, 1, 3), NO_SUCH);
        Due.is("grower -1", x.field(-1, 1, 1, 3), NO_SUCH);
        Due.is("tonnes 0", x.field(0, 0, 1, 3), BAD_VALUE);
        Due.is("tonnes 301", x.field(0, 301, 1, 3), BAD_VALUE);
        Due.is("purity 0", x.field(0, 1, 0, 3), BAD_VALUE);
        Due.is("purity 101", x.field(0, 1, 101, 3), BAD_VALUE);
        Due.is("burnt before now", x.field(0, 1, 1, 2), BAD_VALUE);
        Due.is("burnt 1000", x.field(0, 1, 1, 1000), BAD_VALUE);
        for (int far : FAR) {
            Due.is("grower far", x.field(far, 1, 1, 3), NO_SUCH);
            Due.is("tonnes far", x.field(0, far, 1, 3), BAD_VALUE);
            Due.is("purity far", x.field(0, 1, far, 3), BAD_VALUE);
            Due.is("burnt far", x.field(0, 1, 1, far), BAD_VALUE);
        }
        Due.is("NO_SUCH goes first", x.field(6, 0, 0, 0), NO_SUCH);
        Due.is("two", x.count(1), 2);
        Due.is("three changes", x.count(19), 3);
        for (int number = 2; number < 30; number++) Due.is("field", x.field(1, 10, 10, 500), number);
        Due.is("31st", x.field(0, 1, 1, 3), TOO_MANY);
        Due.is("BAD_VALUE goes before TOO_MANY", x.field(0, 1, 1, 2), BAD_VALUE);
        Due.is("NO_SUCH goes before TOO_MANY", x.field(6, 1, 1, 3), NO_SUCH);
        Due.is("thirty", x.count(1), 30);
        Due.is("the last of all is green", x.fields(0), (1L << 30) - 2);
    }

    private static void stop() {
        Watched x = new Watched();
        Due.is("first below", x.stop(-1, 5), BAD_VALUE);
        Due.is("last before first", x.stop(5, 4), BAD_VALUE);
        Due.is("last beyond", x.stop(5, 1000), BAD_VALUE);
        Due.is("both beyond", x.stop(1000, 1000), BAD_VALUE);
        for (int far : FAR) {
            Due.is("first far", x.stop(far, 999), BAD_VALUE);
            Due.is("last far", x.stop(0, far), BAD_VALUE);
        }
        Due.is("no change", x.count(19), 0);
        Due.is("least", x.stop(0, 0), 0);
        Due.is("greatest", x.stop(999, 999), 1);
        Due.is("all days", x.stop(0, 999), 2);
        Due.is("again", x.stop(0, 999), 3);
        x.pass(50);
        Due.is("in the past", x.stop(1, 2), 4);
        Due.is("sixth", x.stop(5, 6), TOO_MANY);
        Due.is("BAD_VALUE goes before TOO_MANY", x.stop(6, 5), BAD_VALUE);
        Due.is("five", x.count(2), 5);
    }

    private static void dropStop() {
        Watched x = new Watched();
        Due.is("none", x.dropStop(0), NO_SUCH);
        x.stop(0, 0);
        x.stop(1, 1);
        x.stop(2, 2);
        for (int far : new int[] {-1, 3, 5, Integer.MIN_VALUE, Integer.MAX_VALUE}) {
            Due.is("no such stop", x.dropStop(far), NO_SUCH);
        }
        Due.is("drop the first", x.dropStop(0), 2);
        Due.is("five changes less one", x.count(19), 4);
        Due.is("moved up", x.dropStop(2), NO_SUCH);
        x.pass(1);
        Due.is("day 0 was no stop", x.count(10), 0);
        x.pass(1);
        Due.is("day 1 was one", x.count(10), 1);
        Due.is("drop what is at 1", x.dropStop(1), 1);
        x.pass(1);
        Due.is("day 2 was none", x.count(10), 1);
        Due.is("drop the last", x.dropStop(0), 0);
        for (int i = 0; i < 5; i++) x.stop(i, i);
        Due.is("drop of five", x.dropStop(4), 4);
        Due.is("room for one", x.stop(9, 9), 4);
    }

    private static void pass() {
        Watched x = new Watched();
        Due.is("0 days", x.pass(0), BAD_VALUE);
        Due.is("100 days", x.pass(100), BAD_VALUE);
        for (int far : FAR) Due.is("days far", x.pass(far), BAD_VALUE);
        Due.is("1 day", x.pass(1), 1);
        Due.is("99 days", x.pass(99), 100);
        for (int now = 199; now <= 991; now += 99) Due.is("99 days", x.pass(99), now);
        Due.is("to 1001", x.pass(10), NOT_POSSIBLE);
        Due.is("BAD_VALUE goes first", x.pass(100), BAD_VALUE);
        Due.is("still", x.count(0), 991);
        Due.is("to 1000", x.pass(9), 1000);
        Due.is("beyond", x.pass(1), NOT_POSSIBLE);
        Due.is("1000", x.count(0), 1000);
        Due.is("no field comes any more", x.field(0, 1, 1, 999), BAD_VALUE);
        Due.is("nor on day 1000", x.field(0, 1, 1, 1000), BAD_VALUE);
        Due.is("what if goes on", x.then(300, 0), 0);
        Due.is("what if goes on", x.stopCosts(300, 300), 100000);
        Due.is("what if goes on", x.leastTrucks(300), 0);
        Due.is("pass in what if is none", x.count(0), 1000);
    }

    /** Losing goes before bringing, bringing before crushing. */
    private static void dayOrder() {
        Watched x = new Watched();
        x.set(OLD, 1);
        x.set(TRUCKS, 1);
        x.field(0, 30, 100, 0);
        x.pass(1);
        Due.is("brought and crushed on one day", x.ofField(0, 7), 10);
        x.pass(1);
        Due.is("of age OLD it is brought", x.ofField(0, 7), 20);
        Due.is("sugar of purity 100 and 92", x.count(6), 19);
        x.pass(1);
        Due.is("above OLD it is lost before trucks come", x.ofField(0, 8), 10);
        Due.is("not brought", x.count(9), 2);
        Due.is("lost", x.ofField(0, 4), 3);
        Due.is("the yard is empty", x.count(3), 0);
        Due.is("the quota left", x.ofGrower(0, 0), 80);
    }

    private static void dayRule() {
        Watched x = new Watched();
        x.set(LOAD, 30);
        x.quota(2, 101);
        x.pass(1);
        x.field(0, 30, 50, 1);
        x.field(1, 60, 50, 1);
        x.field(2, 60, 50, 1);
        x.field(2, 30, 50, 1);
        x.field(5, 30, 50, 2);
        Due.is("the greatest quota", x.next(), 2);
        x.quota(1, 101);
        Due.is("of the same the lowest number", x.next(), 1);
        x.quota(1, 0);
        x.quota(2, 0);
        Due.is("no quota, no load", x.next(), 0);
        x.quota(5, 9999);
        Due.is("green cane is not brought", x.next(), 0);
        x.quota(0, 0);
        Due.is("no field with a quota", x.next(), NONE);
        x.quota(0, 1);
        x.set(TRUCKS, 1);
        x.pass(1);
        Due.is("a load of the quota", x.ofField(0, 7), 1);
        Due.is("burnt later, but the others have no quota", x.next(), 4);
        x.quota(1, 1);
        Due.is("burnt first goes before the greater quota", x.next(), 1);
        Watched y = new Watched();
        y.set(LOAD, 30);
        y.field(0, 100, 50, 0);
        y.field(1, 100, 50, 0);
        y.pass(1);
        Due.is("by turns, as the quota becomes less", y.ofGrower(0, 1), 60);
        Due.is("by turns, as the quota becomes less", y.ofGrower(1, 1), 40);
        Due.is("the yard was full", y.count(9), 4);
    }

    private static void dayLoadSizes() {
        Watched x = new Watched();
        x.field(0, 25, 50, 0);
        x.stop(0, 9);
        x.pass(1);
        Due.is("three loads", x.count(4), 3);
        Due.is("a whole one", x.load(0, 1), 10);
        Due.is("a whole one", x.load(1, 1), 10);
        Due.is("the rest of the field", x.load(2, 1), 5);
        x.field(1, 25, 50, 1);
        x.quota(1, 13);
        x.pass(1);
        Due.is("a whole one", x.load(3, 1), 10);
        Due.is("the rest of the quota", x.load(4, 1), 3);
        Due.is("no more", x.count(4), 5);
        Due.is("brought on day 1", x.load(4, 2), 1);
        x.field(2, 25, 50, 2);
        x.set(YARD, 45);
        x.pass(1);
        Due.is("the room in the yard", x.load(5, 1), 7);
        Due.is("full", x.count(3), 45);
        Due.is("no more", x.count(4), 6);
        Due.is("loads so far", x.count(9), 6);
        Watched y = new Watched();
        y.field(0, 300, 50, 0);
        y.set(TRUCKS, 0);
        y.pass(1);
        Due.is("no trucks", y.count(9), 0);
        y.set(TRUCKS, 20);
        y.set(LOAD, 1);
        y.pass(1);
        Due.is("twenty trucks", y.count(9), 20);
    }

    private static void dayLost() {
        Watched x = new Watched();
        x.set(TRUCKS, 0);
        x.field(0, 40, 50, 0);
        x.field(0, 7, 50, 1);
        x.field(4, 300, 50, 2);
        x.pass(6);
        Due.is("at OLD nothing is lost", x.count(7), 0);
        x.pass(1);
        Due.is("the first one", x.count(7), 40);
        Due.is("lost of the grower", x.ofGrower(0, 3), 40);
        x.pass(1);
        Due.is("the second one", x.ofGrower(0, 3), 47);
        x.set(OLD, 20);
        x.pass(15);
        Due.is("a later OLD", x.count(7), 47);
        x.pass(1);
        Due.is("the third one", x.count(7), 347);
        Due.is("lost of the other grower", x.ofGrower(4, 3), 300);
        Due.is("lost stays lost", x.fields(3), 7);
        Due.is("the quota is as before", x.ofGrower(4, 0), 100);
    }

    private static void dayCrush() {
        Watched x = new Watched();
        x.set(MILL, 7);
        x.set(PRICE, 33);
        x.field(0, 20, 95, 0);
        x.field(3, 10, 9, 0);
        x.pass(1);
        Due.is("sugar of 7 * 95", x.count(6), 6);
        Due.is("paid 7 * 95 * 33", x.ofGrower(0, 4), 219);
        Due.is("a part of the load stays", x.load(0, 1), 3);
        Due.is("three loads", x.count(4), 3);
        x.pass(1);
        Due.is("two parts, each rounded: 3 * 87 and 4 * 1", x.count(6), 8);
        Due.is("paid 3 * 87 * 33 and 4 * 1 * 33", x.count(8), 219 + 86 + 1);
        Due.is("the queue moves up", x.load(0, 0), 1);
        Due.is("what is left of it", x.load(0, 1), 6);
        Due.is("behind it", x.load(1, 0), 0);
        Due.is("whole", x.load(1, 1), 10);
        Due.is("no third", x.load(2, 1), NO_SUCH);
        Due.is("of the other one", x.ofGrower(3, 2), 4);
        Due.is("paid the other one", x.ofGrower(3, 4), 1);
    }

    private static void dayStopped() {
        Watched x = new Watched();
        x.set(OLD, 1);
        x.field(0, 10, 50, 0);
        x.stop(0, 1);
        x.stop(1, 2);
        x.pass(3);
        Due.is("a day in two stops counts once", x.count(10), 3);
        Due.is("cane waits", x.ofField(0, 6), 10);
        x.set(LOSS, 17);
        Due.is("never below 0", x.ofField(0, 9), 0);
        x.set(LOSS, 16);
        Due.is("50 less 48", x.ofField(0, 9), 2);
        x.set(LOSS, 10);
        x.pass(1);
        Due.is("above OLD it is crushed as any other", x.count(5), 10);
        Due.is("by its purity then", x.count(6), 2);
        Due.is("nothing is lost in the yard", x.count(7), 0);
    }

    private static void ofField() {
        Watched x = new Watched();
        x.set(MILL, 15);
        x.set(OLD, 2);
        x.set(TRUCKS, 2);
        x.set(LOAD, 13);
        x.field(3, 70, 90, 1);
        numbers(x, 0, new int[] {3, 70, 90, 1, 0, 70, 0, 0, 0, 90});
        x.pass(1);
        numbers(x, 0, new int[] {3, 70, 90, 1, 1, 70, 0, 0, 0, 90});
        x.pass(1);
        numbers(x, 0, new int[] {3, 70, 90, 1, 1, 44, 11, 15, 0, 82});
        x.set(TRUCKS, 1);
        x.pass(2);
        numbers(x, 0, new int[] {3, 70, 90, 1, 1, 18, 7, 45, 0, 66});
        x.pass(1);
        numbers(x, 0, new int[] {3, 70, 90, 1, 3, 0, 0, 52, 18, 58});
        x.field(0, 13, 5, 5);
        x.pass(1);
        numbers(x, 1, new int[] {0, 13, 5, 5, 2, 0, 0, 13, 0, 0});
        for (int number : new int[] {-1, 2, 30, Integer.MIN_VALUE, Integer.MAX_VALUE}) {
            Due.is("no such field", x.ofField(number, 0), NO_SUCH);
            Due.is("NO_SUCH goes first", x.ofField(number, 10), NO_SUCH);
        }
        for (int what : new int[] {-1, 10, Integer.MIN_VALUE, Integer.MAX_VALUE}) {
            Due.is("no such what", x.ofField(1, what), BAD_VALUE);
        }
    }

    private static void numbers(Watched x, int field, int[] want) {
        for (int what = 0; what < want.length; what++) {
            Due.is("day " + x.count(0) + " ofField(" + field + ", " + what + ")", x.ofField(field, what), want[what]);
        }
    }

    private static void ofGrower() {
        Watched x = new Watched();
        x.set(TRUCKS, 3);
        x.set(MILL, 18);
        x.set(OLD, 1);
        x.field(5, 45, 50, 0);
        x.field(5, 9, 50, 3);
        x.field(2, 11, 50, 1);
        Due.is("burnt only", x.ofGrower(5, 5), 45);
        Due.is("green", x.ofGrower(2, 5), 0);
        x.pass(1);
        int[] afterOne = {70, 30, 18, 0, 270, 15};
        for (int what = 0; what < 6; what++) Due.is("grower 5, " + what, x.ofGrower(5, what), afterOne[what]);
        Due.is("burnt now", x.ofGrower(2, 5), 11);
        x.set(TRUCKS, 1);
        x.pass(2);
        int[] afterThree = {60, 40, 40, 5, 270 + 25 + 126 + 75 + 40};
        for (int what = 0; what < 5; what++) Due.is("grower 5 then, " + what, x.ofGrower(5, what), afterThree[what]);
        Due.is("burnt by now", x.ofGrower(5, 5), 9);
        for (int far : FAR) {
            Due.is("no such grower", x.ofGrower(far, 0), NO_SUCH);
            Due.is("NO_SUCH goes first", x.ofGrower(far, 6), NO_SUCH);
            Due.is("no such what", x.ofGrower(0, far), BAD_VALUE);
        }
        Due.is("grower 6", x.ofGrower(6, 0), NO_SUCH);
        Due.is("what 6", x.ofGrower(5, 6), BAD_VALUE);
    }

    private static void load() {
        Watched x = new Watched();
        Due.is("an empty yard", x.load(0, 0), NO_SUCH);
        Due.is("NO_SUCH goes first", x.load(0, 3), NO_SUCH);
        x.field(1, 5, 50, 0);
        x.field(0, 14, 50, 1);
        x.stop(0, 1);
        x.pass(2);
        int[][] want = {{0, 5, 0}, {1, 10, 1}, {1, 4, 1}};
        for (int place = 0; place < 3; place++) {
            for (int what = 0; what < 3; what++) Due.is("load", x.load(place, what), want[place][what]);
        }
        Due.is("behind the last", x.load(3, 0), NO_SUCH);
        Due.is("below", x.load(-1, 0), NO_SUCH);
        Due.is("what 3", x.load(2, 3), BAD_VALUE);
        Due.is("what -1", x.load(0, -1), BAD_VALUE);
        for (int far : FAR) {
            Due.is("place far", x.load(far, 0), NO_SUCH);
            Due.is("what far", x.load(0, far), BAD_VALUE);
        }
        x.set(MILL, 8);
        x.pass(1);
        Due.is("the first is gone", x.load(0, 0), 1);
        Due.is("3 of the second are gone", x.load(0, 1), 7);
        Due.is("its day stays", x.load(0, 2), 1);
        Due.is("two", x.load(2, 0), NO_SUCH);
    }

    private static void fullYard() {
        Watched x = new Watched();
        x.set(YARD, 400);
        x.set(LOAD, 1);
        x.set(TRUCKS, 20);
        x.set(OLD, 20);
        x.quota(0, 9999);
        x.field(0, 300, 100, 0);
        x.field(0, 300, 100, 0);
        x.stop(0, 19);
        x.pass(19);
        Due.is("380 loads", x.count(4), 380);
        Due.is("room", x.next(), 1);
        x.pass(1);
        Due.is("400 loads", x.count(4), 400);
        Due.is("400 tonnes", x.count(3), 400);
        Due.is("the last load", x.load(399, 2), 19);
        Due.is("its field", x.load(399, 0), 1);
        Due.is("behind it", x.load(400, 0), NO_SUCH);
        Due.is("no room", x.next(), NONE);
        x.pass(1);
        Due.is("60 are crushed, no load came", x.count(4), 340);
        Due.is("brought", x.count(9), 400);
        Due.is("first of the queue", x.load(0, 2), 3);
    }

    private static void count() {
        Watched x = new Watched();
        x.set(LOAD, 9);
        x.set(OLD, 1);
        x.set(MILL, 13);
        x.field(0, 40, 80, 0);
        x.field(1, 5, 80, 9);
        x.stop(1, 1);
        x.pass(2);
        x.set(TRUCKS, 0);
        x.pass(1);
        Due.write(x, "d1;d");
        int[] want = {3, 2, 1, 14, 3, 26, 7 + 3 + 3 + 5, 0, 216 + 96 + 96 + 153, 5, 1, 0, 9, 13, 100, 8, 1, 30, 4, 6};
        for (int what = 0; what < want.length; what++) Due.is("count " + what, x.count(what), want[what]);
        Due.is("count -1", x.count(-1), BAD_VALUE);
        Due.is("count 20", x.count(20), BAD_VALUE);
        for (int far : FAR) Due.is("count far", x.count(far), BAD_VALUE);
    }

    private static void fields() {
        Watched x = new Watched();
        x.set(TRUCKS, 1);
        x.set(OLD, 1);
        x.field(0, 10, 50, 0);
        x.field(0, 20, 50, 0);
        x.field(0, 20, 50, 3);
        x.field(0, 20, 50, 4);
        x.pass(2);
        x.set(TRUCKS, 0);
        x.pass(1);
        Due.is("green", x.fields(0), 8);
        Due.is("burnt", x.fields(1), 4);
        Due.is("empty", x.fields(2), 1);
        Due.is("lost", x.fields(3), 2);
        Due.is("how -1", x.fields(-1), -2);
        Due.is("how 4", x.fields(4), -2);
        for (int far : FAR) Due.is("how far", x.fields(far), -2);
        for (int i = 4; i < 30; i++) x.field(0, 1, 1, 999);
        Due.is("the 30th", x.fields(0), (1L << 30) - 8);
    }

    private static void next() {
        Watched x = new Watched();
        x.set(OLD, 1);
        x.set(TRUCKS, 0);
        x.field(0, 10, 50, 0);
        Due.is("trucks of a day do not matter", x.next(), 0);
        x.pass(2);
        Due.is("its age is not looked at", x.next(), 0);
        x.set(YARD, 0);
        Due.is("no room", x.next(), NONE);
        x.set(YARD, 1);
        Due.is("room for a tonne", x.next(), 0);
        x.pass(1);
        Due.is("lost", x.next(), NONE);
        x.field(1, 10, 50, 4);
        Due.is("green", x.next(), NONE);
        x.pass(1);
        Due.is("burnt today", x.next(), 1);
        x.quota(1, 0);
        Due.is("no quota", x.next(), NONE);
        x.quota(1, 1);
        Due.is("the least quota", x.next(), 1);
        Due.is("nothing changed", x.ofField(1, 5), 10);
    }

    private static void then() {
        Watched x = new Watched();
        x.set(TRUCKS, 1);
        x.set(OLD, 2);
        x.field(0, 50, 70, 0);
        Due.is("1 day: sugar", x.then(1, 1), 7);
        Due.is("1 day: paid", x.then(1, 2), 210);
        Due.is("1 day: lost", x.then(1, 0), 0);
        Due.is("3 days: sugar", x.then(3, 1), 7 + 6 + 5);
        Due.is("3 days: paid", x.then(3, 2), 210 + 186 + 162);
        Due.is("3 days: lost", x.then(3, 0), 0);
        Due.is("4 days: lost", x.then(4, 0), 20);
        Due.is("300 days: lost", x.then(300, 0), 20);
        Due.is("300 days: sugar", x.then(300, 1), 18);
        x.pass(1);
        Due.is("from now on only", x.then(3, 1), 11);
        Due.is("from now on only", x.then(3, 2), 348);
        x.pass(3);
        Due.is("nothing more is lost", x.then(9, 0), 0);
        for (int days : new int[] {0, -1, 301, Integer.MIN_VALUE, Integer.MAX_VALUE}) {
            Due.is("days", x.then(days, 0), BAD_VALUE);
        }
        for (int what : new int[] {-1, 3, Integer.MIN_VALUE, Integer.MAX_VALUE}) {
            Due.is("what", x.then(1, what), BAD_VALUE);
        }
        Due.is("nothing changes", x.count(19), 5);
        Due.is("nothing changes", x.count(0), 4);
        Watched y = new Watched();
        y.field(0, 10, 70, 0);
        y.stop(0, 0);
        Due.is("stops count", y.then(1, 1), 0);
        Due.is("stops end", y.then(2, 1), 6);
        for (int i = 0; i < 10; i++) y.pass(99);
        y.field(1, 30, 100, 999);
        y.quota(1, 10);
        Due.is("beyond day 1000", y.then(16, 0), 20);
        Due.is("a day before", y.then(15, 0), 0);
        Due.is("beyond day 1000", y.then(16, 1), 10);
    }

    private static void leastTrucks() {
        Watched x = new Watched();
        x.set(OLD, 2);
        x.field(0, 65, 70, 0);
        Due.is("3 days: nothing can be lost", x.leastTrucks(3), 0);
        Due.is("7 loads in 3 days", x.leastTrucks(4), 3);
        Due.is("300 days", x.leastTrucks(300), 3);
        Due.is("nothing changes", x.count(11), 4);
        Due.is("nothing changes", x.count(0), 0);
        Due.is("nothing changes", x.count(19), 2);
        x.quota(0, 64);
        Due.is("a tonne above the quota", x.leastTrucks(4), NONE);
        x.quota(0, 65);
        x.set(LOAD, 1);
        Due.is("65 loads in 3 days are too many", x.leastTrucks(4), NONE);
        x.set(LOAD, 2);
        Due.is("33 loads in 3 days", x.leastTrucks(4), 11);
        Watched y = new Watched();
        y.set(LOAD, 1);
        y.set(OLD, 1);
        y.field(0, 40, 70, 0);
        Due.is("just 20", y.leastTrucks(9), 20);
        y.field(0, 1, 70, 0);
        Due.is("one more", y.leastTrucks(9), NONE);
        y.set(TRUCKS, 0);
        y.pass(3);
        Due.is("what is lost already does not count", y.leastTrucks(9), 0);
        for (int days : new int[] {0, -1, 301, Integer.MIN_VALUE, Integer.MAX_VALUE}) {
            Due.is("days", y.leastTrucks(days), BAD_VALUE);
        }
    }

    private static void leastTrucksInASmallYard() {
        Watched x = new Watched();
        x.set(LOAD, 10);
        x.set(YARD, 20);
        x.set(MILL, 20);
        x.set(OLD, 1);
        x.field(0, 20, 70, 0);
        x.field(1, 20, 70, 0);
        Due.is("20 in each day", x.leastTrucks(9), 2);
        x.quota(0, 20);
        Due.is("20 in each day", x.leastTrucks(9), 2);
        x.set(YARD, 10);
        Due.is("10 in each day", x.leastTrucks(9), NONE);
    }

    private static void stopCosts() {
        Watched x = new Watched();
        x.field(0, 40, 80, 0);
        Due.is("stopped for none", x.stopCosts(5, 0), 100000);
        Due.is("stopped for a day: 32 or 28 (7 a load)", x.stopCosts(5, 1), 100004);
        Due.is("stopped for 2 days: 32 or 24", x.stopCosts(5, 2), 100008);
        Due.is("stopped for all", x.stopCosts(5, 5), 100032);
        Due.is("stopped on the one", x.stopCosts(1, 1), 100032);
        Due.is("300", x.stopCosts(300, 300), 100032);
        x.stop(0, 0);
        Due.is("stopped anyway", x.stopCosts(5, 1), 100000);
        Due.is("a day more", x.stopCosts(5, 2), 100004);
        for (int days : new int[] {0, -1, 301, Integer.MIN_VALUE, Integer.MAX_VALUE}) {
            Due.is("days", x.stopCosts(days, 0), BAD_VALUE);
        }
        for (int stopped : new int[] {-1, 6, Integer.MIN_VALUE, Integer.MAX_VALUE}) {
            Due.is("stopped", x.stopCosts(5, stopped), BAD_VALUE);
        }
        Due.is("nothing changes", x.count(2), 1);
        Due.is("nothing changes", x.count(0), 0);
        Due.is("nothing changes", x.count(19), 2);
        Watched y = new Watched();
        y.set(LOSS, 0);
        y.set(LOAD, 3);
        y.set(MILL, 2);
        y.set(TRUCKS, 1);
        y.field(0, 3, 70, 0);
        y.field(0, 3, 70, 1);
        Due.is("stopped, parts are crushed otherwise", y.stopCosts(4, 1), 100000 + (1 + 0 + 1 + 0) - (1 + 0 + 1));
    }

    private static void put() {
        Watched x = new Watched();
        Due.is("a character", x.put('d'), 1);
        Due.is("8 characters", x.put(Due.number("12345678")), 9);
        Due.is("none", x.put(0), BAD_VALUE);
        Due.is("code 32", x.put(32), BAD_VALUE);
        Due.is("code 33", x.put(33), 10);
        Due.is("code 126", x.put(126), 11);
        Due.is("code 127", x.put(127), BAD_VALUE);
        Due.is("code 128", x.put(128), BAD_VALUE);
        Due.is("code 255", x.put(255), BAD_VALUE);
        Due.is("32 in the midst", x.put(0x612061L), BAD_VALUE);
        Due.is("127 at first", x.put(0x7f6161L), BAD_VALUE);
        Due.is("127 as the 8th", x.put(0x7f61616161616161L), BAD_VALUE);
        Due.is("a 0 below", x.put(0x6100L), BAD_VALUE);
        Due.is("a 0 in the midst", x.put(0x610061L), BAD_VALUE);
        Due.is("a bit above a 0", x.put(0x0100000000000061L), BAD_VALUE);
        Due.is("the top bit above a 0", x.put(0x8000000000000061L), BAD_VALUE);
        Due.is("the top bit", x.put(0x8061616161616161L), BAD_VALUE);
        Due.is("-1", x.put(-1), BAD_VALUE);
        Due.is("least", x.put(Long.MIN_VALUE), BAD_VALUE);
        Due.is("most", x.put(Long.MAX_VALUE), BAD_VALUE);
        Due.is("as before", x.count(18), 11);
        for (int length = 19; length <= 75; length += 8) Due.is("8 more", x.put(Due.number("aaaaaaaa")), length);
        Due.is("81", x.put(Due.number("aaaaaa")), TOO_MANY);
        Due.is("BAD_VALUE goes first", x.put(Due.number("aaaaa a")), BAD_VALUE);
        Due.is("80", x.put(Due.number("aaaaa")), 80);
        Due.is("81", x.put('a'), TOO_MANY);
        Due.is("no change", x.count(19), 0);
        Watched y = new Watched();
        Due.write(y, "q3=1234;q0=9");
        Due.is("the order of the characters", y.carryOut(), 2);
        Due.is("1234", y.ofGrower(3, 0), 1234);
        Due.is("9", y.ofGrower(0, 0), 9);
    }

    private static void wipe() {
        Watched x = new Watched();
        Due.is("empty", x.wipe(), 0);
        Due.write(x, "d1;d2");
        Due.is("wipe", x.wipe(), 5);
        Due.is("length", x.count(18), 0);
        Due.is("fault", x.fault(), 0);
        Due.is("again", x.wipe(), 0);
        for (int i = 0; i < 10; i++) x.put(Due.number("12345678"));
        Due.is("80", x.wipe(), 80);
        Due.is("no change", x.count(19), 0);
        Due.write(x, "d7");
        Due.is("nothing of it stays", x.carryOut(), 1);
        Due.is("7 days", x.count(0), 7);
    }

    private static void fault() {
        faultOf("d5", NONE);
        faultOf("d0", NONE);
        faultOf("d9999", NONE);
        faultOf("d10000", 5);
        faultOf("d00", 2);
        faultOf("d01", 2);
        faultOf("d", 1);
        faultOf("d;", 1);
        faultOf("d5;", 3);
        faultOf("d5;;", 3);
        faultOf("d5,", 2);
        faultOf("d5;x", 3);
        faultOf("d-1", 1);
        faultOf("D5", 0);
        faultOf(";", 0);
        faultOf("5", 0);
        faultOf("f0:1%2@3", NONE);
        faultOf("f5:9999%9999@9999", NONE);
        faultOf("f6:1%2@3", 1);
        faultOf("f:1%2@3", 1);
        faultOf("f00:1%2@3", 2);
        faultOf("f0:%2@3", 3);
        faultOf("f0:1@3", 4);
        faultOf("f0:1%2%3", 6);
        faultOf("f0:1%2@", 7);
        faultOf("f0:1%2", 6);
        faultOf("f0:1%", 5);
        faultOf("f0:1", 4);
        faultOf("f0:", 3);
        faultOf("f0", 2);
        faultOf("f", 1);
        faultOf("f0:1%2@3%", 8);
        faultOf("f0:12345%2@3", 7);
        faultOf("f0:1%02@3", 6);
        faultOf("q0=5", NONE);
        faultOf("q6=5", 1);
        faultOf("q/=5", 1);
        faultOf("q0:5", 2);
        faultOf("q0=", 3);
        faultOf("q0=a", 3);
        faultOf("l0>1=5", NONE);
        faultOf("l0>6=5", 3);
        faultOf("l0=1=5", 2);
        faultOf("l0>1>5", 4);
        faultOf("l0>1=", 5);
        faultOf("s0-0", NONE);
        faultOf("s12-3456", NONE);
        faultOf("s1-", 3);
        faultOf("s1", 2);
        faultOf("s1;", 2);
        faultOf("s-1", 1);
        faultOf("s1-2;q0=1;l1>2=3;f0:1%2@3;d1", NONE);
        faultOf("s1-2;q0=1;l1>2=3;f0:1%2@3;d1;", 29);
        faultOf("s1-2;q0=1;l1>2=3;f0:1%2@3;dd", 27);
        Watched x = new Watched();
        for (int i = 0; i < 10; i++) x.put(Due.number(i < 9 ? "d1;d123;" : "d1;d1234"));
        Due.is("80 characters", x.count(18), 80);
        Due.is("80 characters", x.fault(), NONE);
        Watched y = new Watched();
        for (int i = 0; i < 10; i++) y.put(Due.number("d1;d123;"));
        Due.is("80 characters", y.fault(), 80);
        Due.is("80 characters", y.count(18), 80);
    }

    private static void faultOf(String text, int want) {
        Watched x = new Watched();
        Due.write(x, text);
        Due.is("fault of " + text, x.fault(), want);
        Due.is("fault of " + text + " again", x.fault(), want);
        Due.is("length of " + text, x.count(18), text.length());
        Due.is("no change", x.count(19), 0);
        if (want == NONE) return;
        Due.is("carryOut of " + text, x.carryOut(), BAD_TEXT);
        Due.is("it stays", x.count(18), text.length());
        Due.is("no change", x.count(19), 0);
    }

    private static void carryOut() {
        Watched x = new Watched();
        Due.is("empty", x.carryOut(), BAD_TEXT);
        Due.write(x, "f2:40%80@0;q1=7;l2>3=25;s1-2;d3");
        Due.is("five orders", x.carryOut(), 5);
        Due.is("the pad is empty", x.count(18), 0);
        Due.is("one change", x.count(19), 1);
        Due.is("grower", x.ofField(0, 0), 2);
        Due.is("tonnes", x.ofField(0, 1), 40);
        Due.is("purity", x.ofField(0, 2), 80);
        Due.is("burnt", x.ofField(0, 3), 0);
        Due.is("q", x.ofGrower(1, 0), 7);
        Due.is("l to", x.ofGrower(3, 0), 125);
        Due.is("l from, less 40", x.ofGrower(2, 0), 35);
        Due.is("s", x.count(2), 1);
        Due.is("d", x.count(0), 3);
        Due.is("stopped days", x.count(10), 2);
        Due.is("undo of all", x.undo(), 0);
        Due.is("no field", x.count(1), 0);
        Due.is("no stop", x.count(2), 0);
        Due.is("day 0", x.count(0), 0);
        Due.is("quota", x.ofGrower(1, 0), 100);
        Due.is("the pad stays empty", x.count(18), 0);
        Watched y = new Watched();
        for (int i = 0; i < 13; i++) Due.write(y, "q0=1;");
        Due.write(y, "q5=10;d99;s0-0");
        Due.is("79 characters", y.count(18), 79);
        Due.is("16 orders", y.carryOut(), 16);
        Due.is("one change", y.count(19), 1);
    }

    private static void carryOutErrors() {
        String[] texts = {"q0=1;d0;q0=2", "q0=1;d100;q0=2", "q0=1;f0:0%1@1;q0=2", "q0=1;f0:301%1@1;q0=2",
            "q0=1;f0:1%101@1;q0=2", "q0=1;f0:1%1@1000;q0=2", "q0=1;l0>0=1;q0=2", "q0=1;l0>1=0;q0=2",
            "q0=1;l0>1=2;q0=2", "q0=1;s2-1;q0=2", "q0=1;s0-1000;q0=2"};
        for (String text : texts) {
            Watched x = new Watched();
            Due.write(x, text);
            Due.is(text, x.carryOut(), 1);
            Due.is("up to the error", x.ofGrower(0, 0), 1);
            Due.is("the pad is empty", x.count(18), 0);
            Due.is("a change", x.count(19), 1);
            Due.is("nothing of the error", x.count(1) + x.count(2) + x.count(0), 0);
        }
        Watched y = new Watched();
        Due.write(y, "d0;d5");
        Due.is("none is carried out", y.carryOut(), 0);
        Due.is("a change all the same", y.count(19), 1);
        Due.is("the pad is empty", y.count(18), 0);
        Due.is("day 0", y.count(0), 0);
        Due.write(y, "s0-0;s1-1;s2-2;s3-3;s4-4;s5-5;d1");
        Due.is("TOO_MANY", y.carryOut(), 5);
        Due.is("day 0", y.count(0), 0);
        Due.write(y, "d50;f0:1%1@49");
        Due.is("by the day of then", y.carryOut(), 1);
        for (int i = 0; i < 9; i++) y.pass(99);
        Due.write(y, "d59;d1;d1");
        Due.is("to 1000", y.carryOut(), 1);
        Due.is("1000", y.count(0), 1000);
    }

    private static void undo() {
        Watched x = new Watched();
        for (int i = 1; i <= 8; i++) {
            x.quota(0, i);
            Due.is("history", x.count(19), Math.min(i, 6));
        }
        Due.is("an error", x.quota(0, -1), BAD_VALUE);
        Due.is("records nothing", x.count(19), 6);
        for (int left = 5; left >= 0; left--) {
            Due.is("undo", x.undo(), left);
            Due.is("as before", x.ofGrower(0, 0), left + 2);
        }
        Due.is("no more", x.undo(), NOT_POSSIBLE);
        Due.is("as the oldest", x.ofGrower(0, 0), 2);
        x.quota(0, 50);
        Due.is("a change after it", x.count(19), 1);
        Due.is("undo", x.undo(), 0);
        Due.is("2", x.ofGrower(0, 0), 2);
        Due.write(x, "d1");
        x.quota(0, 3);
        x.save(1);
        x.undo();
        Due.is("the pad is not undone", x.count(18), 2);
        Due.is("the slot is not undone", x.restore(1), 0);
        Due.is("the slot is not undone", x.ofGrower(0, 0), 3);
        x.wipe();
        x.undo();
        Due.is("the pad is not undone", x.count(18), 0);
        Due.is("restore is undone", x.ofGrower(0, 0), 2);
    }

    private static long[] all(Watched x) {
        long[] all = new long[18 + 6 * 6 + 3 * 10 + 8 * 3 + 4 + 1];
        int at = 0;
        for (int what = 0; what < 18; what++) all[at++] = x.count(what);
        for (int grower = 0; grower < 6; grower++) {
            for (int what = 0; what < 6; what++) all[at++] = x.ofGrower(grower, what);
        }
        for (int field = 0; field < 3; field++) {
            for (int what = 0; what < 10; what++) all[at++] = x.ofField(field, what);
        }
        for (int place = 0; place < 8; place++) {
            for (int what = 0; what < 3; what++) all[at++] = x.load(place, what);
        }
        for (int how = 0; how < 4; how++) all[at++] = x.fields(how);
        all[at] = x.next();
        return all;
    }

    private static void save() {
        Watched x = new Watched();
        Due.is("no field", x.save(0), 0);
        x.field(0, 50, 50, 0);
        Due.is("a field", x.save(1), 1);
        Due.is("slot -1", x.save(-1), BAD_VALUE);
        Due.is("slot 2", x.save(2), BAD_VALUE);
        for (int far : FAR) Due.is("slot far", x.save(far), BAD_VALUE);
        Due.is("no change", x.count(19), 1);
        Due.is("slot 0 is as it was", x.restore(0), 0);
        Due.is("slot 1 is as it was", x.restore(1), 1);
        x.pass(1);
        Due.is("overwrites", x.save(0), 1);
        x.pass(1);
        x.restore(0);
        Due.is("day 1", x.count(0), 1);
    }

    private static void restore() {
        Watched x = new Watched();
        Due.is("nothing saved", x.restore(0), NOT_POSSIBLE);
        Due.is("slot -1", x.restore(-1), BAD_VALUE);
        Due.is("slot 2", x.restore(2), BAD_VALUE);
        for (int far : FAR) Due.is("slot far", x.restore(far), BAD_VALUE);
        x.set(MILL, 7);
        x.set(LOSS, 3);
        x.field(0, 60, 95, 0);
        x.field(1, 60, 95, 0);
        x.stop(1, 1);
        x.pass(2);
        x.lend(0, 1, 5);
        long[] before = all(x);
        Due.is("save", x.save(0), 2);
        x.set(MILL, 70);
        x.field(5, 9, 9, 9);
        x.dropStop(0);
        x.quota(4, 4);
        Due.write(x, "d1");
        x.pass(3);
        Due.is("only slot 0", x.restore(1), NOT_POSSIBLE);
        Due.is("restore", x.restore(0), 2);
        long[] now = all(x);
        for (int i = 0; i < before.length; i++) Due.is("restored " + i, now[i], before[i]);
        Due.is("the pad stays", x.count(18), 2);
        Due.is("a change", x.count(19), 6);
        x.undo();
        Due.is("undone", x.count(1), 3);
        Due.is("the history stays", x.count(19), 5);
        x.restore(0);
        x.pass(5);
        Due.is("the slot keeps it", x.restore(0), 2);
        now = all(x);
        for (int i = 0; i < before.length; i++) Due.is("restored again " + i, now[i], before[i]);
        x.field(3, 8, 8, 8);
        Due.is("a new field where there was another one", x.ofField(2, 7), 0);
        Due.is("as it came", x.ofField(2, 1), 8);
    }
}
