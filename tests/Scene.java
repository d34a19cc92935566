import java.util.ArrayList;
import java.util.Arrays;
import java.util.List;

/**
 * A mill that is made anew by the same calls as often as it is looked at, and what it answers to all that can be asked.
 * One object answers 512 calls alone: each look is a look at an object of its own.
 */
final class Scene {
    interface Way {
        Watched made();
    }

    interface Call {
        long on(Watched x);
    }

    private interface Look {
        void at(Watched x, List<Long> seen);
    }

    private static final Look[] LOOKS = {Scene::atAll, Scene::atFields, (x, seen) -> atLoads(x, 0, seen),
        (x, seen) -> atLoads(x, 1, seen), (x, seen) -> atLoads(x, 2, seen), Scene::atWhatIfs, Scene::atHistory,
        Scene::atSlots, Scene::atPad};

    private final String name;
    private final Way way;
    private final long[][] seen = new long[LOOKS.length][];

    Scene(String name, Way way) {
        this.name = name;
        this.way = way;
        for (int i = 0; i < LOOKS.length; i++) seen[i] = look(i, way);
    }

    Watched made() {
        return way.made();
    }

    /** The call answers the error, and from then on all answers are as if it had not been. */
    void refuses(String told, Call call, long code) {
        Due.is(name + ": " + told, call.on(made()), code);
        keeps(told, call);
    }

    /** Whatever the call answers, nothing is different behind it. */
    void keeps(String told, Call call) {
        isAlso(told + " changes nothing", () -> with(call));
    }

    void isUndone(String told, Call call) {
        isAlso("undo of " + told, () -> {
            Watched x = with(call);
            x.undo();
            return x;
        });
    }

    void isAlso(String told, Way other) {
        for (int i = 0; i < LOOKS.length; i++) {
            int differs = Arrays.mismatch(look(i, other), seen[i]);
            Due.is(name + ": " + told + ": the first number that differs in look " + i, differs, -1);
        }
    }

    private Watched with(Call call) {
        Watched x = made();
        call.on(x);
        return x;
    }

    private static long[] look(int which, Way way) {
        List<Long> numbers = new ArrayList<>();
        LOOKS[which].at(way.made(), numbers);
        return numbers.stream().mapToLong(Long::longValue).toArray();
    }

    private static void atAll(Watched x, List<Long> seen) {
        atState(x, seen);
        seen.add((long) x.count(18));
        seen.add((long) x.count(19));
        seen.add((long) x.next());
        seen.add((long) x.fault());
    }

    private static void atState(Watched x, List<Long> seen) {
        for (int what = 0; what <= 17; what++) seen.add((long) x.count(what));
        for (int grower = 0; grower < 6; grower++) {
            for (int what = 0; what <= 5; what++) seen.add((long) x.ofGrower(grower, what));
        }
        for (int how = 0; how <= 3; how++) seen.add(x.fields(how));
    }

    private static void atFields(Watched x, List<Long> seen) {
        for (int field = 0; field <= 30; field++) {
            for (int what = 0; what <= 9; what++) seen.add((long) x.ofField(field, what));
        }
    }

    private static void atLoads(Watched x, int what, List<Long> seen) {
        for (int place = 0; place <= 400; place++) seen.add((long) x.load(place, what));
    }

    /** Stops are seen by what a day brings. */
    private static void atWhatIfs(Watched x, List<Long> seen) {
        for (int days = 1; days <= 40; days++) seen.add((long) x.then(days, 1));
        for (int what = 0; what <= 2; what++) seen.add((long) x.then(300, what));
        seen.add((long) x.leastTrucks(300));
        seen.add((long) x.stopCosts(300, 2));
        for (int stops = 0; stops < 6; stops++) {
            seen.add((long) x.dropStop(0));
            seen.add((long) x.then(300, 1));
        }
    }

    private static void atHistory(Watched x, List<Long> seen) {
        for (int undone = 0; undone < 7; undone++) {
            seen.add((long) x.undo());
            if (undone < 6) atState(x, seen);
        }
    }

    private static void atSlots(Watched x, List<Long> seen) {
        for (int slot = 0; slot < 2; slot++) {
            seen.add((long) x.restore(slot));
            atState(x, seen);
            for (int field = 0; field < 5; field++) seen.add((long) x.ofField(field, 5));
        }
    }

    private static void atPad(Watched x, List<Long> seen) {
        seen.add((long) x.carryOut());
        atState(x, seen);
        seen.add((long) x.wipe());
    }
}
