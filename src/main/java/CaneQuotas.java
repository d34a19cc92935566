/** Cane that is brought to a sugar mill: fields, growers with quotas, a yard with a queue, and what would be. */
public final class CaneQuotas {
    public static final int NO_SUCH = -1, BAD_VALUE = -2, BAD_TEXT = -3, TOO_MANY = -4, NOT_POSSIBLE = -5, NONE = -6;
    public static final int TRUCKS = 0, LOAD = 1, MILL = 2, YARD = 3, LOSS = 4, OLD = 5, PRICE = 6;

    private static final int SETTINGS = 7;
    private static final int GROWERS = 6;
    private static final int MOST_FIELDS = 30;
    private static final int MOST_STOPS = 5;
    private static final int MOST_QUOTA = 9999;
    private static final int MOST_TRUCKS = 20;
    // A load has a tonne at least, and the yard never takes more than 400 tonnes.
    private static final int MOST_LOADS = 400;
    private static final int LAST_DAY = 999;
    private static final int LAST_NOW = 1000;
    private static final int MOST_DAYS_TO_PASS = 99;
    private static final int MOST_DAYS_TO_TRY = 300;
    private static final int HISTORY = 6;
    private static final int SLOTS = 2;
    private static final int MOST_SIGNS = 80;
    private static final int NO_COST = 100000;
    private static final int GREEN = 0, BURNT = 1, EMPTY = 2, LOST = 3;

    private final Mill mill = new Mill();
    private final Mill trial = new Mill();
    private final History history = new History();
    private final Mill[] slots = new Mill[SLOTS];
    private final Pad pad = new Pad();

    public CaneQuotas() {
    }

    // ---- changes

    public int set(int setting, int value) {
        history.prepare(mill);
        return history.recordUnlessError(mill.changeSetting(setting, value));
    }

    public int quota(int grower, int tonnes) {
        history.prepare(mill);
        return history.recordUnlessError(mill.changeQuota(grower, tonnes));
    }

    public int lend(int grower, int other, int tonnes) {
        history.prepare(mill);
        return history.recordUnlessError(mill.lendQuota(grower, other, tonnes));
    }

    public int field(int grower, int tonnes, int purity, int burnt) {
        history.prepare(mill);
        return history.recordUnlessError(mill.addField(grower, tonnes, purity, burnt));
    }

    public int stop(int first, int last) {
        history.prepare(mill);
        return history.recordUnlessError(mill.stops.addStop(first, last));
    }

    public int dropStop(int stop) {
        history.prepare(mill);
        return history.recordUnlessError(mill.stops.removeStop(stop));
    }

    public int pass(int days) {
        history.prepare(mill);
        return history.recordUnlessError(mill.passDays(days));
    }

    // ---- what there is

    public int ofField(int field, int what) {
        return mill.numberOfField(field, what);
    }

    public int ofGrower(int grower, int what) {
        return mill.numberOfGrower(grower, what);
    }

    public int load(int place, int what) {
        return mill.yard.numberOfLoad(place, what);
    }

    public int count(int what) {
        switch (what) {
            case 18: return pad.length;
            case 19: return history.size;
            default: return mill.numberOfAll(what);
        }
    }

    public long fields(int how) {
        if (!isWithin(how, GREEN, LOST)) return BAD_VALUE;
        return mill.fields.setOf(how, mill.now);
    }

    // ---- what if; nothing changes

    public int next() {
        return mill.nextField();
    }

    public int then(int days, int what) {
        if (!isWithin(days, 1, MOST_DAYS_TO_TRY) || !isWithin(what, 0, 2)) return BAD_VALUE;
        tryDays(days, 0);
        switch (what) {
            case 0: return trial.growers.totalLost() - mill.growers.totalLost();
            case 1: return trial.sugar - mill.sugar;
            default: return trial.growers.totalPaid() - mill.growers.totalPaid();
        }
    }

    public int leastTrucks(int days) {
        if (!isWithin(days, 1, MOST_DAYS_TO_TRY)) return BAD_VALUE;
        // Nothing promises that more trucks never lose more, so each number is tried.
        for (int trucks = 0; trucks <= MOST_TRUCKS; trucks++) {
            if (losesNothing(trucks, days)) return trucks;
        }
        return NONE;
    }

    public int stopCosts(int days, int stopped) {
        if (!isWithin(days, 1, MOST_DAYS_TO_TRY) || !isWithin(stopped, 0, days)) return BAD_VALUE;
        tryDays(days, 0);
        int sugar = trial.sugar;
        tryDays(days, stopped);
        return sugar - trial.sugar + NO_COST;
    }

    private void tryDays(int days, int stopped) {
        trial.copyFrom(mill);
        for (int day = 0; day < days; day++) {
            trial.passDay(day < stopped);
        }
    }

    private boolean losesNothing(int trucks, int days) {
        trial.copyFrom(mill);
        trial.settings[TRUCKS] = trucks;
        int lostBefore = mill.growers.totalLost();
        for (int day = 0; day < days; day++) {
            trial.passDay(false);
            if (trial.growers.totalLost() != lostBefore) return false;
        }
        return true;
    }

    // ---- texts

    public int put(long characters) {
        return pad.append(characters);
    }

    public int wipe() {
        return pad.empty();
    }

    public int fault() {
        return pad.findFault();
    }

    public int carryOut() {
        if (pad.findFault() != NONE) return BAD_TEXT;
        history.prepare(mill);
        int done = 0;
        pad.startReading();
        for (int order = 0; order < MOST_SIGNS && pad.readOrder(); order++) {
            if (carryOutOrder() < 0) break;
            done++;
            pad.readSign(';');
        }
        pad.empty();
        return history.recordUnlessError(done);
    }

    private int carryOutOrder() {
        int[] values = pad.values;
        switch (pad.kind) {
            case 'f': return mill.addField(values[0], values[1], values[2], values[3]);
            case 'q': return mill.changeQuota(values[0], values[1]);
            case 'l': return mill.lendQuota(values[0], values[1], values[2]);
            case 's': return mill.stops.addStop(values[0], values[1]);
            default: return mill.passDays(values[0]);
        }
    }

    // ---- undo, saving

    public int undo() {
        if (history.size == 0) return NOT_POSSIBLE;
        history.bringBackLatest(mill);
        return history.size;
    }

    public int save(int slot) {
        if (!isWithin(slot, 0, SLOTS - 1)) return BAD_VALUE;
        Mill saved = slots[slot];
        if (saved == null) {
            saved = new Mill();
            slots[slot] = saved;
        }
        saved.copyFrom(mill);
        return mill.fields.count;
    }

    public int restore(int slot) {
        if (!isWithin(slot, 0, SLOTS - 1)) return BAD_VALUE;
        Mill saved = slots[slot];
        if (saved == null) return NOT_POSSIBLE;
        history.prepare(mill);
        mill.copyFrom(saved);
        return history.recordUnlessError(mill.fields.count);
    }

    private static boolean isWithin(int value, int least, int most) {
        return value >= least && value <= most;
    }

    private static boolean isGrower(int grower) {
        return isWithin(grower, 0, GROWERS - 1);
    }

    private static void copyRow(int[] from, int[] to, int length) {
        System.arraycopy(from, 0, to, 0, Math.min(length, Math.min(from.length, to.length)));
    }

    private static int sumOf(int[] row) {
        int sum = 0;
        for (int number : row) sum += number;
        return sum;
    }

    /** All that an undo or a slot brings back. */
    private static final class Mill {
        private static final int[] LEAST = {0, 1, 1, 0, 0, 1, 0};
        private static final int[] MOST = {20, 30, 200, 400, 100, 20, 999};

        final int[] settings = {4, 10, 60, 100, 8, 5, 30};
        final Growers growers = new Growers();
        final Fields fields = new Fields();
        final Stops stops = new Stops();
        final Yard yard = new Yard();
        int now;
        int sugar;
        int loadsBrought;
        int stoppedDays;

        void copyFrom(Mill other) {
            copyRow(other.settings, settings, SETTINGS);
            growers.copyFrom(other.growers);
            fields.copyFrom(other.fields);
            stops.copyFrom(other.stops);
            yard.copyFrom(other.yard);
            now = other.now;
            sugar = other.sugar;
            loadsBrought = other.loadsBrought;
            stoppedDays = other.stoppedDays;
        }

        int changeSetting(int setting, int value) {
            if (!isWithin(setting, 0, SETTINGS - 1)) return BAD_VALUE;
            if (!isWithin(value, LEAST[setting], MOST[setting])) return BAD_VALUE;
            int previous = settings[setting];
            settings[setting] = value;
            return previous;
        }

        int changeQuota(int grower, int tonnes) {
            if (!isGrower(grower)) return NO_SUCH;
            if (!isWithin(tonnes, 0, MOST_QUOTA)) return BAD_VALUE;
            int previous = growers.quota[grower];
            growers.quota[grower] = tonnes;
            return previous;
        }

        int lendQuota(int grower, int other, int tonnes) {
            if (!isGrower(grower) || !isGrower(other)) return NO_SUCH;
            if (tonnes < 1 || grower == other) return BAD_VALUE;
            if (growers.quota[grower] < tonnes || growers.quota[other] > MOST_QUOTA - tonnes) return NOT_POSSIBLE;
            growers.quota[grower] -= tonnes;
            growers.quota[other] += tonnes;
            return growers.quota[grower];
        }

        int addField(int grower, int tonnes, int purity, int burnt) {
            if (!isGrower(grower)) return NO_SUCH;
            if (!isWithin(tonnes, 1, 300) || !isWithin(purity, 1, 100)) return BAD_VALUE;
            if (!isWithin(burnt, now, LAST_DAY)) return BAD_VALUE;
            return fields.append(grower, tonnes, purity, burnt);
        }

        int passDays(int days) {
            if (!isWithin(days, 1, MOST_DAYS_TO_PASS)) return BAD_VALUE;
            if (now + days > LAST_NOW) return NOT_POSSIBLE;
            for (int day = 0; day < days; day++) {
                passDay(false);
            }
            return now;
        }

        /** The halt is a stop that is only supposed: it stands beside those that were told. */
        void passDay(boolean halted) {
            loseOldCane();
            bringLoads();
            if (halted || stops.isStopped(now)) {
                stoppedDays++;
            } else {
                crush();
            }
            now++;
        }

        private void loseOldCane() {
            for (int field = 0; field < fields.count; field++) {
                if (now - fields.burnt[field] > settings[OLD]) {
                    growers.lost[fields.grower[field]] += fields.loseCane(field);
                }
            }
        }

        private void bringLoads() {
            for (int truck = 0; truck < settings[TRUCKS]; truck++) {
                int field = nextField();
                if (field == NONE) return;
                bringLoad(field);
            }
        }

        int nextField() {
            if (room() <= 0) return NONE;
            int best = NONE;
            for (int field = 0; field < fields.count; field++) {
                if (fields.howItIs(field, now) != BURNT || quotaOf(field) <= 0) continue;
                if (best == NONE || goesAhead(field, best)) best = field;
            }
            return best;
        }

        /** Fields are met in the order of their numbers: where all else is equal, the one met before stays ahead. */
        private boolean goesAhead(int field, int best) {
            int[] burnt = fields.burnt;
            int[] grower = fields.grower;
            if (burnt[field] != burnt[best]) return burnt[field] < burnt[best];
            return growers.quota[grower[field]] > growers.quota[grower[best]];
        }

        private int quotaOf(int field) {
            return growers.quota[fields.grower[field]];
        }

        private int room() {
            return yard.loads < MOST_LOADS ? settings[YARD] - yard.total : 0;
        }

        private void bringLoad(int field) {
            int wanted = Math.min(settings[LOAD], fields.left[field]);
            int tonnes = Math.min(wanted, Math.min(quotaOf(field), room()));
            int grower = fields.grower[field];
            growers.quota[grower] -= tonnes;
            growers.brought[grower] += tonnes;
            fields.left[field] -= tonnes;
            fields.inYard[field] += tonnes;
            yard.append(field, tonnes, now);
            loadsBrought++;
        }

        private void crush() {
            int rest = settings[MILL];
            int emptied = 0;
            for (int place = 0; place < yard.loads && rest > 0; place++) {
                int part = Math.min(rest, yard.tonnes[place]);
                crushPart(yard.field[place], part);
                rest -= part;
                if (yard.takeFrom(place, part) == 0) emptied++;
            }
            yard.dropFirst(emptied);
        }

        private void crushPart(int field, int tonnes) {
            int grower = fields.grower[field];
            int purity = fields.purityOn(field, now, settings[LOSS]);
            sugar += tonnes * purity / 100;
            growers.paid[grower] += tonnes * purity * settings[PRICE] / 100;
            growers.crushed[grower] += tonnes;
            fields.inYard[field] -= tonnes;
            fields.crushed[field] += tonnes;
        }

        int numberOfField(int field, int what) {
            if (!isWithin(field, 0, fields.count - 1)) return NO_SUCH;
            switch (what) {
                case 0: return fields.grower[field];
                case 1: return fields.tonnes[field];
                case 2: return fields.purity[field];
                case 3: return fields.burnt[field];
                case 4: return fields.howItIs(field, now);
                case 5: return fields.left[field];
                case 6: return fields.inYard[field];
                case 7: return fields.crushed[field];
                case 8: return fields.lost[field];
                case 9: return fields.purityOn(field, now, settings[LOSS]);
                default: return BAD_VALUE;
            }
        }

        int numberOfGrower(int grower, int what) {
            if (!isGrower(grower)) return NO_SUCH;
            switch (what) {
                case 0: return growers.quota[grower];
                case 1: return growers.brought[grower];
                case 2: return growers.crushed[grower];
                case 3: return growers.lost[grower];
                case 4: return growers.paid[grower];
                case 5: return fields.burntCaneOf(grower, now);
                default: return BAD_VALUE;
            }
        }

        int numberOfAll(int what) {
            if (isWithin(what, 11, 10 + SETTINGS)) return settings[what - 11];
            switch (what) {
                case 0: return now;
                case 1: return fields.count;
                case 2: return stops.count;
                case 3: return yard.total;
                case 4: return yard.loads;
                case 5: return growers.totalCrushed();
                case 6: return sugar;
                case 7: return growers.totalLost();
                case 8: return growers.totalPaid();
                case 9: return loadsBrought;
                case 10: return stoppedDays;
                default: return BAD_VALUE;
            }
        }
    }

    private static final class Growers {
        final int[] quota = {100, 100, 100, 100, 100, 100};
        final int[] brought = new int[GROWERS];
        final int[] crushed = new int[GROWERS];
        final int[] lost = new int[GROWERS];
        final int[] paid = new int[GROWERS];

        void copyFrom(Growers other) {
            copyRow(other.quota, quota, GROWERS);
            copyRow(other.brought, brought, GROWERS);
            copyRow(other.crushed, crushed, GROWERS);
            copyRow(other.lost, lost, GROWERS);
            copyRow(other.paid, paid, GROWERS);
        }

        int totalCrushed() {
            return sumOf(crushed);
        }

        int totalLost() {
            return sumOf(lost);
        }

        int totalPaid() {
            return sumOf(paid);
        }
    }

    private static final class Fields {
        final int[] grower = new int[MOST_FIELDS];
        final int[] tonnes = new int[MOST_FIELDS];
        final int[] purity = new int[MOST_FIELDS];
        final int[] burnt = new int[MOST_FIELDS];
        final int[] left = new int[MOST_FIELDS];
        final int[] inYard = new int[MOST_FIELDS];
        final int[] crushed = new int[MOST_FIELDS];
        final int[] lost = new int[MOST_FIELDS];
        int count;

        void copyFrom(Fields other) {
            count = other.count;
            copyRow(other.grower, grower, count);
            copyRow(other.tonnes, tonnes, count);
            copyRow(other.purity, purity, count);
            copyRow(other.burnt, burnt, count);
            copyRow(other.left, left, count);
            copyRow(other.inYard, inYard, count);
            copyRow(other.crushed, crushed, count);
            copyRow(other.lost, lost, count);
        }

        int append(int ofGrower, int withTonnes, int withPurity, int burntOn) {
            if (count >= MOST_FIELDS) return TOO_MANY;
            int field = count;
            grower[field] = ofGrower;
            tonnes[field] = withTonnes;
            purity[field] = withPurity;
            burnt[field] = burntOn;
            left[field] = withTonnes;
            // The place may still hold what an undone field had here.
            inYard[field] = 0;
            crushed[field] = 0;
            lost[field] = 0;
            count++;
            return field;
        }

        int howItIs(int field, int day) {
            if (day < burnt[field]) return GREEN;
            if (left[field] > 0) return BURNT;
            return lost[field] > 0 ? LOST : EMPTY;
        }

        int loseCane(int field) {
            int gone = left[field];
            lost[field] += gone;
            left[field] = 0;
            return gone;
        }

        int purityOn(int field, int day, int lossByDay) {
            int age = Math.max(0, day - burnt[field]);
            return Math.max(0, purity[field] - lossByDay * age);
        }

        int burntCaneOf(int ofGrower, int day) {
            int sum = 0;
            for (int field = 0; field < count; field++) {
                if (grower[field] == ofGrower && howItIs(field, day) == BURNT) sum += left[field];
            }
            return sum;
        }

        long setOf(int how, int day) {
            long set = 0;
            for (int field = 0; field < count; field++) {
                if (howItIs(field, day) == how) set |= 1L << field;
            }
            return set;
        }
    }

    private static final class Stops {
        final int[] first = new int[MOST_STOPS];
        final int[] last = new int[MOST_STOPS];
        int count;

        void copyFrom(Stops other) {
            count = other.count;
            copyRow(other.first, first, count);
            copyRow(other.last, last, count);
        }

        int addStop(int from, int to) {
            if (!isWithin(from, 0, LAST_DAY) || !isWithin(to, from, LAST_DAY)) return BAD_VALUE;
            if (count >= MOST_STOPS) return TOO_MANY;
            first[count] = from;
            last[count] = to;
            count++;
            return count - 1;
        }

        int removeStop(int stop) {
            if (!isWithin(stop, 0, count - 1)) return NO_SUCH;
            for (int behind = stop + 1; behind < count; behind++) {
                first[behind - 1] = first[behind];
                last[behind - 1] = last[behind];
            }
            count--;
            return count;
        }

        boolean isStopped(int day) {
            for (int stop = 0; stop < count; stop++) {
                if (isWithin(day, first[stop], last[stop])) return true;
            }
            return false;
        }
    }

    /** The queue of the loads, the first one at place 0. */
    private static final class Yard {
        final int[] field = new int[MOST_LOADS];
        final int[] tonnes = new int[MOST_LOADS];
        final int[] day = new int[MOST_LOADS];
        int loads;
        int total;

        void copyFrom(Yard other) {
            loads = other.loads;
            total = other.total;
            copyRow(other.field, field, loads);
            copyRow(other.tonnes, tonnes, loads);
            copyRow(other.day, day, loads);
        }

        void append(int ofField, int withTonnes, int onDay) {
            if (loads >= MOST_LOADS) return;
            field[loads] = ofField;
            tonnes[loads] = withTonnes;
            day[loads] = onDay;
            loads++;
            total += withTonnes;
        }

        int takeFrom(int place, int part) {
            if (!isWithin(place, 0, loads - 1)) return 0;
            tonnes[place] -= part;
            total -= part;
            return tonnes[place];
        }

        void dropFirst(int dropped) {
            for (int place = dropped; place < loads; place++) {
                field[place - dropped] = field[place];
                tonnes[place - dropped] = tonnes[place];
                day[place - dropped] = day[place];
            }
            loads -= dropped;
        }

        int numberOfLoad(int place, int what) {
            if (!isWithin(place, 0, loads - 1)) return NO_SUCH;
            switch (what) {
                case 0: return field[place];
                case 1: return tonnes[place];
                case 2: return day[place];
                default: return BAD_VALUE;
            }
        }
    }

    /** A ring with one place more than states are kept, so that a change that fails drops no older state. */
    private static final class History {
        private static final int PLACES = HISTORY + 1;

        final Mill[] states = new Mill[PLACES];
        int oldest;
        int size;

        void prepare(Mill mill) {
            int place = (oldest + size) % PLACES;
            Mill state = states[place];
            if (state == null) {
                state = new Mill();
                states[place] = state;
            }
            state.copyFrom(mill);
        }

        int recordUnlessError(int answer) {
            if (answer < 0) return answer;
            if (size < HISTORY) {
                size++;
            } else {
                oldest = (oldest + 1) % PLACES;
            }
            return answer;
        }

        void bringBackLatest(Mill mill) {
            if (size == 0) return;
            size--;
            Mill state = states[(oldest + size) % PLACES];
            if (state != null) mill.copyFrom(state);
        }
    }

    /** The text of orders; where reading it fails, the place that was reached is the fault. */
    private static final class Pad {
        private static final int MOST_SIGNS_AT_ONCE = 8;
        private static final int MOST_DIGITS = 4;
        private static final int MOST_VALUES = 4;

        final char[] signs = new char[MOST_SIGNS];
        int length;
        int at;
        char kind;
        final int[] values = new int[MOST_VALUES];
        int valueCount;

        int append(long characters) {
            int added = countSigns(characters);
            if (added == 0) return BAD_VALUE;
            if (length + added > MOST_SIGNS) return TOO_MANY;
            for (int sign = 0; sign < added; sign++) {
                signs[length + added - 1 - sign] = (char) (characters >>> (8 * sign) & 255);
            }
            length += added;
            return length;
        }

        /** 0 also stands for characters that may not be put. */
        private static int countSigns(long characters) {
            long rest = characters;
            int count = 0;
            while (count < MOST_SIGNS_AT_ONCE && (rest & 255) != 0) {
                if (!isWithin((int) (rest & 255), 33, 126)) return 0;
                rest >>>= 8;
                count++;
            }
            return rest == 0 ? count : 0;
        }

        int empty() {
            int before = length;
            length = 0;
            return before;
        }

        int findFault() {
            startReading();
            for (int order = 0; order < MOST_SIGNS; order++) {
                if (!readOrder()) return at;
                if (at == length) return NONE;
                if (!readSign(';')) return at;
            }
            return at;
        }

        void startReading() {
            at = 0;
        }

        boolean readOrder() {
            if (at >= length) return false;
            kind = signs[at];
            valueCount = 0;
            String form = formOf(kind);
            if (form.isEmpty()) return false;
            for (int part = 0; part < form.length(); part++) {
                if (!readPart(form.charAt(part))) return false;
            }
            return true;
        }

        /** D stands for a digit, N for a number, every other sign for itself. */
        private static String formOf(char kind) {
            switch (kind) {
                case 'f': return "fD:N%N@N";
                case 'q': return "qD=N";
                case 'l': return "lD>D=N";
                case 's': return "sN-N";
                case 'd': return "dN";
                default: return "";
            }
        }

        private boolean readPart(char part) {
            switch (part) {
                case 'D': return readDigit();
                case 'N': return readNumber();
                default: return readSign(part);
            }
        }

        boolean readSign(char sign) {
            if (at >= length || signs[at] != sign) return false;
            at++;
            return true;
        }

        private boolean readDigit() {
            if (!digitFollows() || signs[at] > '5') return false;
            keepValue(signs[at] - '0');
            at++;
            return true;
        }

        /** A digit too many is left unread: what comes next refuses it at its place. */
        private boolean readNumber() {
            if (!digitFollows()) return false;
            int number = 0;
            for (int digits = 0; digits < MOST_DIGITS && digitFollows(); digits++) {
                if (digits > 0 && number == 0) break;
                number = number * 10 + signs[at] - '0';
                at++;
            }
            keepValue(number);
            return true;
        }

        private boolean digitFollows() {
            return at < length && isWithin(signs[at], '0', '9');
        }

        private void keepValue(int value) {
            if (valueCount >= MOST_VALUES) return;
            values[valueCount] = value;
            valueCount++;
        }
    }
}
