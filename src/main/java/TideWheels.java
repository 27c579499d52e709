/** A sea clock and the works that its tides drive; the document tells what each call promises. */
public final class TideWheels {
    public static final int UNKNOWN = -1, OUTSIDE = -2, STATE = -3, FULL = -4, NONE = -9;
    public static final long LOST = Long.MIN_VALUE;

    private static final int NO_FAULT = 0, NULL = 1, CAST = 2, INDEX = 3, SIZE = 4;
    private static final int AHEAD_OF_FAULTS = -10, AHEAD_OF_PLACES = -100;
    private static final int HOURS = 60, MOST_LATE = 60, MOST_FORCE = 59;
    private static final int MOST_TIDES = 6, MOST_WORKS = 8, MOST_STORMS = 6, MOST_READINGS = 8;
    private static final int LAWS = 3, MOST_LAW = 1, LEAST_LAW = 2;
    private static final int KINDS = 3, WORK = 0, BARNACLED = 1, SAINT = 2;
    private static final int SHEETS = 4, MOST_CELLS = 60, MOST_PLAN = 30;
    private static final int LANES = 3, BYTES = 0, SHORTS = 1;
    private static final int NOBODY = -1;

    private final Row[] sheets = new Row[SHEETS];
    private final Text text = new Text();
    private final Trace trace = new Trace();
    private final Sea sea = new Sea();
    private final Notes readings = new Notes(MOST_READINGS);
    private final Work[] works = new Work[MOST_WORKS];
    private final Stopping asItIs = new Stopping();
    private final Stopping otherwise = new Stopping();
    private final Lateness lateness = new Lateness();
    private int workCount;
    private int hooked;
    private int law;
    private int start;
    private int fault;

    public TideWheels() {
    }

    // ---- 1 the town

    public int town(int sheet, int lane, int i, int n) {
        fault = NO_FAULT;
        if (!isSheet(sheet)) {
            return UNKNOWN;
        }
        if (!isLane(lane)) {
            return OUTSIDE;
        }
        Row row = rowOf(sheet);
        int found = faultOfCells(row, lane, i, n);
        if (row == null || found != NO_FAULT) {
            return faulted(found);
        }
        if (!text.isTaken(row.cells, i, n)) {
            return AHEAD_OF_PLACES - text.place;
        }
        settle();
        return workCount;
    }

    public int ofWork(int k, int what) {
        Work work = workOf(k);
        if (work == null) {
            return UNKNOWN;
        }
        switch (what) {
            case 0: return work.kind();
            case 1: return work.weight;
            case 2: return work.takes();
            case 3: return has(hooked, k) ? 1 : 0;
            default: return OUTSIDE;
        }
    }

    public int law(int v) {
        if (v < 0 || v >= LAWS) {
            return OUTSIDE;
        }
        if (hasNoTown()) {
            return STATE;
        }
        int was = law;
        law = v;
        asItIs.arrange(works, law, NOBODY);
        return was;
    }

    public int start(int v) {
        if (v < 0 || v >= sea.tideCount) {
            return OUTSIDE;
        }
        int was = start;
        start = v;
        return was;
    }

    public int hook(int k, boolean is) {
        if (workOf(k) == null) {
            return UNKNOWN;
        }
        if (has(hooked, k) == is) {
            return 0;
        }
        hooked ^= bit(k);
        return 1;
    }

    public int storm(int hour, int v) {
        if (hasNoTown()) {
            return STATE;
        }
        if (!isHour(hour) || !isForce(v)) {
            return OUTSIDE;
        }
        return sea.storms.add(NOBODY, hour, v);
    }

    public int calm(int k) {
        return sea.storms.takeBack(k);
    }

    // ---- 2 hours

    public int strength(int hour) {
        if (!isHour(hour)) {
            return OUTSIDE;
        }
        return hasNoTown() ? STATE : sea.strengthAt(start, hour, 0);
    }

    public int goes(int hour) {
        if (!isHour(hour)) {
            return OUTSIDE;
        }
        return hasNoTown() ? STATE : hooked & ~stopped(hooked, hour);
    }

    public int late(int k, int hour) {
        if (workOf(k) == null) {
            return UNKNOWN;
        }
        if (!isHour(hour)) {
            return OUTSIDE;
        }
        int late = 0;
        for (int h = 0; h <= hour; h++) {
            late += has(stopped(hooked, h), k) ? 1 : 0;
        }
        return late;
    }

    public int all(int hour) {
        if (!isHour(hour)) {
            return OUTSIDE;
        }
        if (hasNoTown()) {
            return STATE;
        }
        for (int h = hour; h < HOURS; h++) {
            if (stopped(hooked, h) == 0) {
                return h;
            }
        }
        return NONE;
    }

    public int alike(int hour) {
        if (!isHour(hour)) {
            return OUTSIDE;
        }
        if (hasNoTown()) {
            return STATE;
        }
        lateness.forget();
        for (int h = 0; h < HOURS; h++) {
            lateness.add(stopped(hooked, h));
            if (h >= hour && lateness.isAlike(hooked)) {
                return h;
            }
        }
        return NONE;
    }

    // ---- 3 hooks, storms

    public int fewest(int k, int from, int to) {
        if (workOf(k) == null) {
            return UNKNOWN;
        }
        if (!isHour(from) || !isHour(to) || to < from) {
            return OUTSIDE;
        }
        if (!has(hooked, k)) {
            return NONE;
        }
        // Works stop in one order at any strength, so what goes at the weakest hour goes in all.
        int weakest = weakest(from, to);
        int others = hooked & ~bit(k);
        int best = NONE;
        int size = MOST_WORKS;
        for (int set = 0; set <= others; set++) {
            boolean fewer = (set & ~others) == 0 && Integer.bitCount(set) < size;
            if (fewer && has(asItIs.going(hooked & ~set, weakest), k)) {
                best = set;
                size = Integer.bitCount(set);
            }
        }
        return best;
    }

    public int help(int v, int what) {
        if (!isForce(v) || what < 0 || what > 1) {
            return OUTSIDE;
        }
        if (hasNoTown()) {
            return STATE;
        }
        int now = lateTogether();
        int least = now;
        int best = NONE;
        for (int hour = 0; hour < HOURS; hour++) {
            int going = asItIs.going(hooked, sea.strengthAt(start, hour, v));
            int gain = Integer.bitCount(stopped(hooked, hour)) - Integer.bitCount(hooked & ~going);
            if (now - gain < least) {
                least = now - gain;
                best = hour;
            }
        }
        return what == 0 ? best : least;
    }

    public int plan(int sheet, int lane, int i, int n) {
        fault = NO_FAULT;
        if (!isSheet(sheet)) {
            return UNKNOWN;
        }
        if (!isLane(lane) || n < 0 || n > MOST_PLAN) {
            return OUTSIDE;
        }
        if (hasNoTown()) {
            return STATE;
        }
        Row row = rowOf(sheet);
        int found = faultOfCells(row, lane, i, 2 * n);
        if (row == null || found != NO_FAULT) {
            return faulted(found);
        }
        int refusal = refusalOfPlan(row, i, n);
        if (refusal != 0) {
            return refusal;
        }
        int wrong = firstWrong(row, i, n);
        return wrong == NONE ? lateByPlan(row, i, n) : AHEAD_OF_PLACES - wrong;
    }

    // ---- 4 how late works were

    public int reading(int k, int hour, int late) {
        if (workOf(k) == null) {
            return UNKNOWN;
        }
        if (!isHour(hour) || late < 0 || late > MOST_LATE) {
            return OUTSIDE;
        }
        return readings.add(k, hour, late);
    }

    public int back(int k) {
        return readings.takeBack(k);
    }

    public int starts() {
        if (hasNoTown()) {
            return STATE;
        }
        int set = 0;
        for (int s = 0; s < sea.tideCount; s++) {
            set |= fits(asItIs, s, hooked) ? bit(s) : 0;
        }
        return set;
    }

    public int laws() {
        if (hasNoTown()) {
            return STATE;
        }
        int set = 0;
        for (int v = 0; v < LAWS; v++) {
            otherwise.arrange(works, v, NOBODY);
            set |= fits(otherwise, start, hooked) ? bit(v) : 0;
        }
        return set;
    }

    public int hung() {
        if (hasNoTown()) {
            return STATE;
        }
        int set = 0;
        for (int k = 0; k < workCount; k++) {
            otherwise.arrange(works, law, k);
            set |= fits(otherwise, start, hooked) ? bit(k) : 0;
        }
        return set;
    }

    public int freed() {
        if (hasNoTown()) {
            return STATE;
        }
        int set = 0;
        for (int k = 0; k < workCount; k++) {
            set |= fits(asItIs, start, hooked & ~bit(k)) ? bit(k) : 0;
        }
        return set;
    }

    public long odds(int k, int hour, int which) {
        if (workOf(k) == null || !isHour(hour) || which < 0 || which > 1) {
            return LOST;
        }
        int strength = sea.strengthAt(start, hour, 0);
        int upper = 0;
        int lower = bit(workCount);
        for (int set = 0; set < bit(workCount); set++) {
            upper += has(asItIs.going(set, strength), k) ? 1 : 0;
        }
        // The lower number is a power of two, so twos are all that the two can have in common.
        while (lower > 1 && upper % 2 == 0) {
            upper /= 2;
            lower /= 2;
        }
        return which == 0 ? upper : lower;
    }

    // ---- 5 sheets, parts

    public int sheet(int k, int lane, int n) {
        fault = NO_FAULT;
        if (!isSheet(k)) {
            return UNKNOWN;
        }
        if (!isLane(lane) || n > MOST_CELLS) {
            return OUTSIDE;
        }
        if (n < 0) {
            return faulted(SIZE);
        }
        sheets[k] = new Row(lane, n);
        return 1;
    }

    public int lose(int k) {
        if (!isSheet(k)) {
            return UNKNOWN;
        }
        if (sheets[k] == null) {
            return 0;
        }
        sheets[k] = null;
        return 1;
    }

    public int put(int k, int i, int v) {
        fault = NO_FAULT;
        if (!isSheet(k)) {
            return UNKNOWN;
        }
        Row row = rowOf(k);
        if (row == null) {
            return faulted(NULL);
        }
        if (!row.reaches(i, 1)) {
            return faulted(INDEX);
        }
        row.set(i, v);
        return 1;
    }

    public long cell(int k, int i, int lane) {
        fault = NO_FAULT;
        if (!isSheet(k) || !isLane(lane)) {
            return LOST;
        }
        Row row = rowOf(k);
        int found = faultOfCells(row, lane, i, 1);
        if (row == null || found != NO_FAULT) {
            fault = found;
            return LOST;
        }
        return row.get(i);
    }

    public int copy(int k, int i, int other, int j, int n) {
        fault = NO_FAULT;
        if (!isSheet(k) || !isSheet(other)) {
            return UNKNOWN;
        }
        Row from = rowOf(k);
        Row to = rowOf(other);
        if (from == null || to == null) {
            return faulted(NULL);
        }
        if (from.lane != to.lane) {
            return faulted(CAST);
        }
        if (!from.reaches(i, n) || !to.reaches(j, n)) {
            return faulted(INDEX);
        }
        System.arraycopy(from.cells, i, to.cells, j, n);
        return n;
    }

    public int tell(int k) {
        Work work = workOf(k);
        return work == null ? UNKNOWN : work.telling(trace);
    }

    public int ring(int k) {
        Work work = workOf(k);
        return work == null ? UNKNOWN : work.ringing(trace);
    }

    public int as(int k, int kind) {
        fault = NO_FAULT;
        Work work = workOf(k);
        if (work == null) {
            return UNKNOWN;
        }
        if (kind < 0 || kind >= KINDS) {
            return OUTSIDE;
        }
        // Each kind is one of all the kinds of lower numbers.
        return work.kind() >= kind ? 1 : faulted(CAST);
    }

    public int trace() {
        return trace.sum;
    }

    public int fault() {
        return fault;
    }

    public int many(int what) {
        switch (what) {
            case 0: return workCount;
            case 1: return sea.tideCount;
            case 2: return sea.storms.count;
            case 3: return readings.count;
            case 4: return law;
            case 5: return start;
            default: return OUTSIDE;
        }
    }

    // ---- what the calls share

    private boolean isSheet(int k) {
        return k >= 0 && k < sheets.length;
    }

    private static boolean isLane(int lane) {
        return lane >= 0 && lane < LANES;
    }

    private static boolean isHour(int hour) {
        return hour >= 0 && hour < HOURS;
    }

    private static boolean isForce(int v) {
        return v >= -MOST_FORCE && v <= MOST_FORCE;
    }

    private static int bit(int k) {
        return 1 << k;
    }

    private static boolean has(int set, int k) {
        return (set >> k & 1) != 0;
    }

    private static int at(int[] row, int i) {
        return i >= 0 && i < row.length ? row[i] : 0;
    }

    private boolean hasNoTown() {
        return workCount == 0;
    }

    private Work workOf(int k) {
        return k >= 0 && k < works.length ? works[k] : null;
    }

    private Row rowOf(int k) {
        return isSheet(k) ? sheets[k] : null;
    }

    private int faulted(int which) {
        fault = which;
        return AHEAD_OF_FAULTS - which;
    }

    private static int faultOfCells(Row row, int lane, int i, int n) {
        if (row == null) {
            return NULL;
        }
        if (row.lane != lane) {
            return CAST;
        }
        if (n < 0) {
            return SIZE;
        }
        return row.reaches(i, n) ? NO_FAULT : INDEX;
    }

    private void settle() {
        workCount = text.works;
        for (int k = 0; k < works.length; k++) {
            works[k] = k < workCount ? madeWork(k, at(text.kinds, k), at(text.weights, k)) : null;
        }
        sea.rise(text.strengths, text.tides);
        readings.forget();
        hooked = bit(workCount) - 1;
        law = 0;
        start = 0;
        asItIs.arrange(works, law, NOBODY);
    }

    private static Work madeWork(int number, int kind, int weight) {
        switch (kind) {
            case SAINT: return new Saint(number, weight);
            case BARNACLED: return new Barnacled(number, weight);
            default: return new Work(number, weight);
        }
    }

    private int stopped(int set, int hour) {
        return set & ~asItIs.going(set, sea.strengthAt(start, hour, 0));
    }

    private int lateTogether() {
        int late = 0;
        for (int hour = 0; hour < HOURS; hour++) {
            late += Integer.bitCount(stopped(hooked, hour));
        }
        return late;
    }

    private int weakest(int from, int to) {
        int weakest = sea.strengthAt(start, from, 0);
        for (int hour = from + 1; hour <= to; hour++) {
            weakest = Math.min(weakest, sea.strengthAt(start, hour, 0));
        }
        return weakest;
    }

    private int refusalOfPlan(Row row, int i, int n) {
        for (int r = 0; r < n; r++) {
            if (!isHour(row.get(i + 2 * r))) {
                return OUTSIDE;
            }
            if (workOf(row.get(i + 2 * r + 1)) == null) {
                return UNKNOWN;
            }
        }
        return 0;
    }

    private static int firstWrong(Row row, int i, int n) {
        for (int r = 1; r < n; r++) {
            if (row.get(i + 2 * r) < row.get(i + 2 * r - 2)) {
                return r;
            }
        }
        return NONE;
    }

    private int lateByPlan(Row row, int i, int n) {
        int set = hooked;
        int late = 0;
        int r = 0;
        for (int hour = 0; hour < HOURS; hour++) {
            for (; r < n && row.get(i + 2 * r) == hour; r++) {
                set ^= bit(row.get(i + 2 * r + 1));
            }
            late += Integer.bitCount(stopped(set, hour));
        }
        return late;
    }

    private boolean fits(Stopping stopping, int firstTide, int set) {
        lateness.forget();
        for (int hour = 0; hour < HOURS; hour++) {
            lateness.add(set & ~stopping.going(set, sea.strengthAt(firstTide, hour, 0)));
            if (!lateness.isAsRead(readings, hour)) {
                return false;
            }
        }
        return true;
    }

    /** A sheet's row; its numbers are kept as ints that have been cut to its lane. */
    private static final class Row {
        final int lane;
        final int[] cells;

        Row(int lane, int n) {
            this.lane = lane;
            this.cells = new int[Math.max(n, 0)];
        }

        boolean reaches(int i, int n) {
            // No sum of the two: it might wrap.
            return i >= 0 && n >= 0 && i <= cells.length && n <= cells.length - i;
        }

        int get(int i) {
            return at(cells, i);
        }

        void set(int i, int v) {
            if (i >= 0 && i < cells.length) {
                cells[i] = cut(v);
            }
        }

        private int cut(int v) {
            switch (lane) {
                case BYTES: return (byte) v;
                case SHORTS: return (short) v;
                default: return v;
            }
        }
    }

    /** Reads a town's text; place moves on only over codes that fit, so it ends at the first fault. */
    private static final class Text {
        final int[] strengths = new int[MOST_TIDES];
        final int[] kinds = new int[MOST_WORKS];
        final int[] weights = new int[MOST_WORKS];
        int tides;
        int works;
        int place;
        private int[] codes;
        private int from;
        private int size;

        boolean isTaken(int[] cells, int i, int n) {
            codes = cells;
            from = i;
            size = n;
            place = 0;
            return passes('q') && hasTides() && hasWorks() && place == size;
        }

        private boolean hasTides() {
            for (int t = 0; t < strengths.length && (t == 0 || isNext(',')); t++) {
                int tens = passes(',') ? readDigit(0, 5) : NONE;
                int ones = tens == NONE ? NONE : readDigit(0, 9);
                if (ones == NONE) {
                    return false;
                }
                strengths[t] = 10 * tens + ones;
                tides = t + 1;
            }
            return true;
        }

        private boolean hasWorks() {
            for (int w = 0; w < kinds.length && w < weights.length && (w == 0 || isNext(';')); w++) {
                int kind = passes(';') ? readKind() : NONE;
                int weight = kind == NONE ? NONE : readDigit(1, 9);
                if (weight == NONE) {
                    return false;
                }
                kinds[w] = kind;
                weights[w] = weight;
                works = w + 1;
            }
            return true;
        }

        private boolean isNext(int code) {
            return codes != null && place < size && at(codes, from + place) == code;
        }

        private boolean passes(int code) {
            if (!isNext(code)) {
                return false;
            }
            place++;
            return true;
        }

        private int readKind() {
            return passes('w') ? WORK : passes('b') ? BARNACLED : passes('s') ? SAINT : NONE;
        }

        private int readDigit(int least, int most) {
            for (int digit = least; digit <= most; digit++) {
                if (passes('0' + digit)) {
                    return digit;
                }
            }
            return NONE;
        }
    }

    /** What the bodies of the works leave behind as they begin. */
    private static final class Trace {
        int sum;

        void leave(int number) {
            sum = 31 * sum + number;
        }
    }

    /** What its kind changes is told by methods, so that a kind can build on the one it is of. */
    private static class Work {
        final int number;
        final int weight;

        Work(int number, int weight) {
            this.number = number;
            this.weight = weight;
        }

        int kind() {
            return WORK;
        }

        int takes() {
            return weight;
        }

        int telling(Trace trace) {
            return plainTelling(trace);
        }

        int ringing(Trace trace) {
            trace.leave(4);
            return number;
        }

        /** Apart from telling, for a saint tells so too, past what a barnacled one tells. */
        final int plainTelling(Trace trace) {
            trace.leave(1);
            return weight;
        }
    }

    private static class Barnacled extends Work {
        Barnacled(int number, int weight) {
            super(number, weight);
        }

        int kind() {
            return BARNACLED;
        }

        int takes() {
            return super.takes() + 1;
        }

        int telling(Trace trace) {
            trace.leave(2);
            return super.telling(trace) + 100;
        }
    }

    private static final class Saint extends Barnacled {
        Saint(int number, int weight) {
            super(number, weight);
        }

        int kind() {
            return SAINT;
        }

        int takes() {
            return 2 * super.takes();
        }

        int telling(Trace trace) {
            trace.leave(3);
            return super.telling(trace) + plainTelling(trace);
        }

        int ringing(Trace trace) {
            trace.leave(5);
            return 30;
        }
    }

    /** The tides, and the storms upon them. */
    private static final class Sea {
        final Notes storms = new Notes(MOST_STORMS);
        int tideCount;
        private final int[] tides = new int[MOST_TIDES];

        void rise(int[] strengths, int count) {
            for (int t = 0; t < tides.length; t++) {
                tides[t] = at(strengths, t);
            }
            tideCount = count;
            storms.forget();
        }

        /** The start is a parameter, for a question may ask of another one. */
        int strengthAt(int start, int hour, int more) {
            int strength = tideAt(start, hour) + more;
            for (int s = 0; s < storms.count; s++) {
                strength += storms.hourOf(s) == hour ? storms.amountOf(s) : 0;
            }
            return Math.max(strength, 0);
        }

        private int tideAt(int start, int hour) {
            return tideCount > 0 ? at(tides, (start + hour) % tideCount) : 0;
        }
    }

    /** Storms or readings: the newest ones alone can be taken back, so each keeps its number. */
    private static final class Notes {
        int count;
        private final int[] works;
        private final int[] hours;
        private final int[] amounts;

        Notes(int most) {
            works = new int[Math.max(most, 0)];
            hours = new int[Math.max(most, 0)];
            amounts = new int[Math.max(most, 0)];
        }

        void forget() {
            count = 0;
        }

        int add(int work, int hour, int amount) {
            if (count < 0 || count >= works.length || count >= hours.length || count >= amounts.length) {
                return FULL;
            }
            works[count] = work;
            hours[count] = hour;
            amounts[count] = amount;
            return count++;
        }

        int takeBack(int k) {
            if (k < 0 || k > count) {
                return OUTSIDE;
            }
            count -= k;
            return count;
        }

        int workOf(int i) {
            return at(works, i);
        }

        int hourOf(int i) {
            return at(hours, i);
        }

        int amountOf(int i) {
            return at(amounts, i);
        }
    }

    /** What works take, and the order in which they stop: no stop changes what is ahead of what. */
    private static final class Stopping {
        private final int[] takes = new int[MOST_WORKS];
        private final int[] order = new int[MOST_WORKS];

        void arrange(Work[] works, int law, int hungOn) {
            for (int k = 0; k < takes.length; k++) {
                Work work = k < works.length ? works[k] : null;
                takes[k] = (work == null ? 0 : work.takes()) + (k == hungOn ? 1 : 0);
            }
            int waiting = bit(MOST_WORKS) - 1;
            for (int place = 0; place < order.length; place++) {
                order[place] = firstToStop(waiting, law);
                waiting &= ~bit(order[place]);
            }
        }

        int going(int set, int strength) {
            int going = set;
            int taken = takenBy(set);
            for (int place = 0; place < order.length && taken > strength; place++) {
                int k = order[place];
                taken -= has(going, k) ? at(takes, k) : 0;
                going &= ~bit(k);
            }
            return going;
        }

        private int takenBy(int set) {
            int taken = 0;
            for (int k = 0; k < takes.length; k++) {
                taken += has(set, k) ? takes[k] : 0;
            }
            return taken;
        }

        private int firstToStop(int set, int law) {
            int first = NOBODY;
            for (int k = 0; k < takes.length; k++) {
                if (has(set, k) && (first == NOBODY || stopsAhead(k, first, law))) {
                    first = k;
                }
            }
            return first;
        }

        /** Never of two that are alike by the law: of those the least number stays the first. */
        private boolean stopsAhead(int k, int other, int law) {
            switch (law) {
                case MOST_LAW: return at(takes, k) > at(takes, other);
                case LEAST_LAW: return at(takes, k) < at(takes, other);
                default: return false;
            }
        }
    }

    /** How late each work is, while the hours of a question go by. */
    private static final class Lateness {
        private final int[] late = new int[MOST_WORKS];

        void forget() {
            for (int k = 0; k < late.length; k++) {
                late[k] = 0;
            }
        }

        void add(int set) {
            for (int k = 0; k < late.length; k++) {
                late[k] += has(set, k) ? 1 : 0;
            }
        }

        boolean isAlike(int set) {
            int first = NOBODY;
            for (int k = 0; k < late.length; k++) {
                if (has(set, k) && first == NOBODY) {
                    first = k;
                }
                if (has(set, k) && late[k] != at(late, first)) {
                    return false;
                }
            }
            return true;
        }

        boolean isAsRead(Notes readings, int hour) {
            for (int r = 0; r < readings.count; r++) {
                boolean ofHour = readings.hourOf(r) == hour;
                if (ofHour && at(late, readings.workOf(r)) != readings.amountOf(r)) {
                    return false;
                }
            }
            return true;
        }
    }
}
