/** The program as the tests ask it: a 513th call of one object would ask for what the document leaves free. */
final class Watched {
    static final int MOST_CALLS = 512;

    private final CaneQuotas x = new CaneQuotas();
    private int calls = 0;

    /** A new one with other settings: each is followed by its value. */
    static Watched mill(int... settings) {
        Watched made = new Watched();
        for (int i = 0; i < settings.length; i += 2) made.set(settings[i], settings[i + 1]);
        return made;
    }

    int calls() {
        return calls;
    }

    private CaneQuotas asked() {
        calls++;
        if (calls > MOST_CALLS) throw new IllegalStateException("the test makes a call more than " + MOST_CALLS);
        return x;
    }

    int set(int setting, int value) {
        return asked().set(setting, value);
    }

    int quota(int grower, int tonnes) {
        return asked().quota(grower, tonnes);
    }

    int lend(int grower, int other, int tonnes) {
        return asked().lend(grower, other, tonnes);
    }

    int field(int grower, int tonnes, int purity, int burnt) {
        return asked().field(grower, tonnes, purity, burnt);
    }

    int stop(int first, int last) {
        return asked().stop(first, last);
    }

    int dropStop(int stop) {
        return asked().dropStop(stop);
    }

    int pass(int days) {
        return asked().pass(days);
    }

    int ofField(int field, int what) {
        return asked().ofField(field, what);
    }

    int ofGrower(int grower, int what) {
        return asked().ofGrower(grower, what);
    }

    int load(int place, int what) {
        return asked().load(place, what);
    }

    int count(int what) {
        return asked().count(what);
    }

    long fields(int how) {
        return asked().fields(how);
    }

    int next() {
        return asked().next();
    }

    int then(int days, int what) {
        return asked().then(days, what);
    }

    int leastTrucks(int days) {
        return asked().leastTrucks(days);
    }

    int stopCosts(int days, int stopped) {
        return asked().stopCosts(days, stopped);
    }

    int put(long characters) {
        return asked().put(characters);
    }

    int wipe() {
        return asked().wipe();
    }

    int fault() {
        return asked().fault();
    }

    int carryOut() {
        return asked().carryOut();
    }

    int undo() {
        return asked().undo();
    }

    int save(int slot) {
        return asked().save(slot);
    }

    int restore(int slot) {
        return asked().restore(slot);
    }
}
