/**
 * Cells in one row, through all of which one current goes.
 * What every call answers is told by the document, promise by promise.
 * All rows are made with the object and used again, so that no call makes an object.
 */
public final class CellsInRow {
    public static final int BAD = -1, STATE = -2, FULL = -3, NONE = -4;

    private static final int MOST_CELLS = 5, MOST_SIGNS = 16, MOST_BYTES = 160, MOST_SEEN = 6;
    private static final int MOST_ROOM = 99, MOST_LEAK = 9, MOST_SIGN = 18, NO_CURRENT = 9;
    private static final int MOST_COUNTED = 9999, FAR = 200, SEEN_FAR = 40, LUCK_FAR = 8;
    private static final int IMAGES = 2, SHEETS = 4, LANES = 3, MOST_PLACES = 40, MOST_READ = 20;
    private static final int PLAIN = 0, BLEED = 1, SHARE = 2, PUMP = 3, KINDS = 4;
    private static final int NOTHING_TORN = 0, TORN_NULL = 1, TORN_INDEX = 2, TORN_CAST = 3, TORN_SIZE = 4;

    private final Tape tape = new Tape();
    private final Row now = new Row();
    private final Row told = new Row();
    private final Row trial = new Row();
    private final Seen seen = new Seen();
    private final Image[] images = new Image[IMAGES];
    private final Sheet[] sheets = new Sheet[SHEETS];
    private final int[][] courses = new int[MOST_LEAK + 1][SEEN_FAR + 1];
    private int latestTorn = NOTHING_TORN;

    public CellsInRow() {
        for (int k = 0; k < IMAGES; k++) {
            images[k] = new Image();
        }
        for (int k = 0; k < SHEETS; k++) {
            sheets[k] = new Sheet();
        }
    }

    // ---- the text

    public int feed(int c) {
        if (c < 0 || c > 127) {
            return BAD;
        }
        if (tape.length >= MOST_BYTES) {
            return FULL;
        }
        tape.bytes[tape.length] = c;
        tape.length++;
        return tape.length;
    }

    public int end(int n) {
        if (n < 0 || n > tape.length) {
            return BAD;
        }
        int had = tape.length;
        tape.length = n;
        return had;
    }

    public int text() {
        int lines = tape.tellTo(told);
        tape.length = 0;
        if (lines >= 0) {
            now.becomes(told);
            seen.size = 0;
            for (int k = 0; k < IMAGES; k++) {
                images[k].there = false;
            }
        }
        return lines;
    }

    public int fault() {
        return tape.latestFault;
    }

    public int rule(int what) {
        switch (what) {
            case 0: return now.cells;
            case 1: return now.signs;
            case 2: return now.hour;
            case 3: return now.stops;
            case 4: return now.waste;
            case 5: return now.done;
            case 6: return now.chargesSummed();
            case 7: return now.stopsBy(now.current()) ? 1 : 0;
            default: return BAD;
        }
    }

    public int unit(int c, int what) {
        if (!isCell(c)) {
            return BAD;
        }
        switch (what) {
            case 0: return now.kind[c];
            case 1: return now.room[c];
            case 2: return now.charge[c];
            case 3: return now.leak[c];
            default: return BAD;
        }
    }

    public int sign(int i) {
        return isSign(i) ? now.plan[i] : BAD;
    }

    // ---- what is changed

    public int alter(int c, int what, int v) {
        if (!isCell(c) || !isOfUnit(what, v)) {
            return BAD;
        }
        if (what == 1 && v < now.charge[c] || what == 2 && v > now.room[c]) {
            return STATE;
        }
        int[] row = what == 0 ? now.kind : what == 1 ? now.room : what == 2 ? now.charge : now.leak;
        int was = row[c];
        row[c] = v;
        return was;
    }

    public int set(int i, int v) {
        if (!isSign(i) || !isSignValue(v)) {
            return BAD;
        }
        int was = now.plan[i];
        now.plan[i] = v;
        return was;
    }

    public int add(int v) {
        if (!isSignValue(v)) {
            return BAD;
        }
        if (now.signs >= MOST_SIGNS) {
            return FULL;
        }
        now.appendSign(v);
        return now.signs;
    }

    public int cut(int n) {
        if (n < 0 || n > now.signs) {
            return BAD;
        }
        int had = now.signs;
        now.signs = n;
        return had;
    }

    public int send(int v) {
        if (!isSignValue(v)) {
            return BAD;
        }
        return now.stoppedBySending(v - NO_CURRENT) ? 1 : 0;
    }

    // ---- hours

    public int hours(int n) {
        if (n < 0 || n > 100) {
            return BAD;
        }
        if (now.hour + n > MOST_COUNTED) {
            return FULL;
        }
        return now.passHours(n);
    }

    public int runs(int n, int what) {
        if (!isFar(n) || what < 0 || what > 3) {
            return BAD;
        }
        startTrial();
        trial.passHours(n);
        switch (what) {
            case 0: return trial.done;
            case 1: return trial.stops;
            case 2: return trial.waste;
            default: return trial.chargesSummed();
        }
    }

    public int ahead(int c, int n) {
        if (!isCell(c) || !isFar(n)) {
            return BAD;
        }
        startTrial();
        trial.passHours(n);
        return trial.charge[c];
    }

    public int when() {
        startTrial();
        for (int n = 0; n <= FAR; n++) {
            if (trial.stopsBy(trial.current())) {
                return n;
            }
            trial.passHour(trial.current());
        }
        return NONE;
    }

    // ---- what is best

    public int kind(int c, int n, int what) {
        if (!isCell(c) || !isFar(n) || !isHalf(what)) {
            return BAD;
        }
        int best = 0;
        int most = -1;
        for (int k = 0; k < KINDS; k++) {
            startTrial();
            trial.kind[c] = k;
            trial.passHours(n);
            if (trial.done > most) {
                best = k;
                most = trial.done;
            }
        }
        return what == 0 ? best : most;
    }

    public int begin(int c, int n, int what) {
        if (!isCell(c) || !isFar(n) || !isHalf(what)) {
            return BAD;
        }
        int best = 0;
        int most = -1;
        for (int v = 0; v <= now.room[c]; v++) {
            startTrial();
            trial.charge[c] = v;
            trial.passHours(n);
            if (trial.done > most) {
                best = v;
                most = trial.done;
            }
        }
        return what == 0 ? best : most;
    }

    public int need(int c, int n) {
        if (!isCell(c) || !isFar(n)) {
            return BAD;
        }
        for (int v = Math.max(1, now.charge[c]); v <= MOST_ROOM; v++) {
            startTrial();
            trial.room[c] = v;
            if (trialNeverStops(n)) {
                return v;
            }
        }
        return NONE;
    }

    public int swap(int n, int what) {
        if (!isFar(n) || !isHalf(what)) {
            return BAD;
        }
        int best = NONE;
        int most = doneAsItIs(n);
        for (int i = 0; i < now.signs; i++) {
            for (int j = i + 1; j < now.signs; j++) {
                // equal signs leave the plan as it is, which is never more
                int done = now.plan[i] == now.plan[j] ? -1 : doneWithSwapped(i, j, n);
                if (done > most) {
                    best = 100 * i + j;
                    most = done;
                }
            }
        }
        return best == NONE ? NONE : what == 0 ? best : most;
    }

    public int bridge(int n, int what) {
        if (!isFar(n) || !isHalf(what)) {
            return BAD;
        }
        int best = NONE;
        int most = doneAsItIs(n);
        for (int c = 0; c < now.cells; c++) {
            startTrial();
            trial.bridged = c;
            trial.passHours(n);
            if (trial.done > most) {
                best = c;
                most = trial.done;
            }
        }
        return best == NONE ? NONE : what == 0 ? best : most;
    }

    // ---- currents that fail

    public long luck(int v, int n, int what) {
        if (!isOdds(v, n) || !isHalf(what)) {
            return BAD;
        }
        long unstopped = 0;
        for (int fails = 0; fails < 1 << n; fails++) {
            long weight = weightOf(fails, v, n);
            if (weight > 0) {
                runTrialFailing(fails, n);
                unstopped += trial.stops == 0 ? weight : 0;
            }
        }
        return inLowestTerms(unstopped, tenToThe(n), what);
    }

    public long mean(int v, int n, int what) {
        if (!isOdds(v, n) || !isHalf(what)) {
            return BAD;
        }
        long done = 0;
        for (int fails = 0; fails < 1 << n; fails++) {
            long weight = weightOf(fails, v, n);
            if (weight > 0) {
                runTrialFailing(fails, n);
                done += weight * trial.done;
            }
        }
        return inLowestTerms(done, tenToThe(n), what);
    }

    // ---- from charges

    public int see(int n, int c, int v) {
        if (n < 0 || n > SEEN_FAR || !isCell(c) || v < 0 || v > MOST_ROOM) {
            return BAD;
        }
        if (seen.size >= MOST_SEEN) {
            return FULL;
        }
        seen.append(n, c, v);
        return seen.size;
    }

    public int forget(int n) {
        if (n < 0 || n > seen.size) {
            return BAD;
        }
        int had = seen.size;
        seen.size = n;
        return had;
    }

    public int kinds(int c) {
        if (!isCell(c)) {
            return BAD;
        }
        int bits = 0;
        for (int k = 0; k < KINDS; k++) {
            startTrial();
            trial.kind[c] = k;
            bits |= trialIsAsSeen() ? 1 << k : 0;
        }
        return bits;
    }

    public int leaks(int c) {
        return isCell(c) ? leaksAsSeen(c) : BAD;
    }

    public int ask(int c, int what) {
        if (!isCell(c) || !isHalf(what)) {
            return BAD;
        }
        int bits = leaksAsSeen(c);
        layCourses(c, bits);
        int best = NONE;
        int fewest = Integer.bitCount(bits);
        for (int n = 0; n <= SEEN_FAR; n++) {
            int left = mostAlike(bits, n);
            if (left < fewest) {
                best = n;
                fewest = left;
            }
        }
        return best == NONE ? NONE : what == 0 ? best : fewest;
    }

    // ---- by a seed

    public int drift(int seed, int n, int what) {
        if (n < 1 || n > FAR || !isHalf(what)) {
            return BAD;
        }
        if (now.cells == 0) {
            return STATE;
        }
        startTrial();
        int s = seed;
        for (int i = 0; i < n; i++) {
            s = s * 1103515245 + 12345;
            int got = s >>> 16 & 0x7fff;
            trial.passHour(got % (MOST_SIGN + 1) - NO_CURRENT);
        }
        return what == 0 ? trial.done : trial.chargesSummed();
    }

    // ---- images, sheets

    public int keep(int k) {
        if (k < 0 || k >= IMAGES) {
            return BAD;
        }
        Image image = images[k];
        int was = image.there ? 1 : 0;
        image.there = true;
        image.row.becomes(now);
        image.seen.becomes(seen);
        return was;
    }

    public int back(int k) {
        if (k < 0 || k >= IMAGES) {
            return BAD;
        }
        Image image = images[k];
        if (!image.there) {
            return STATE;
        }
        now.becomes(image.row);
        seen.becomes(image.seen);
        return now.hour;
    }

    public int sheet(int k, int lane, int n) {
        if (!isSheet(k) || !isLane(lane) || n > MOST_PLACES) {
            return BAD;
        }
        if (n < 0) {
            return -10 - TORN_SIZE;
        }
        sheets[k].becomesNew(lane, n);
        return 1;
    }

    public int lay(int k, int i, int v) {
        if (!isSheet(k)) {
            return BAD;
        }
        Sheet sheet = sheets[k];
        if (!sheet.there) {
            return -10 - TORN_NULL;
        }
        if (i < 0 || i >= sheet.length) {
            return -10 - TORN_INDEX;
        }
        sheet.places[i] = sheet.lowestBits(v);
        return 1;
    }

    public int read(int k, int lane, int f, int n) {
        if (!isSheet(k) || !isLane(lane) || n < 0 || n > MOST_READ) {
            return BAD;
        }
        Sheet sheet = sheets[k];
        int whole = sheet.wholePairs(lane, f, n);
        for (int i = 0; i < whole; i++) {
            int at = f + 2 * i;
            if (!isSign(sheet.places[at]) || !isSignValue(sheet.places[at + 1])) {
                return -20 - i;
            }
        }
        for (int i = 0; i < whole; i++) {
            int at = f + 2 * i;
            now.plan[sheet.places[at]] = sheet.places[at + 1];
        }
        latestTorn = sheet.tornBy(lane, whole, n);
        return whole;
    }

    public int torn() {
        return latestTorn;
    }

    public int count(int what) {
        switch (what) {
            case 0: return seen.size;
            case 1: return (images[0].there ? 1 : 0) + (images[1].there ? 1 : 0);
            case 2: return tape.length;
            case 3: return sheets[0].there ? sheets[0].length : NONE;
            case 4: return now.roomsSummed();
            case 5: return now.signsSummed();
            default: return BAD;
        }
    }

    // ---- what is as told

    private boolean isCell(int c) {
        return c >= 0 && c < now.cells;
    }

    private boolean isSign(int i) {
        return i >= 0 && i < now.signs;
    }

    private static boolean isSignValue(int v) {
        return v >= 0 && v <= MOST_SIGN;
    }

    private static boolean isFar(int n) {
        return n >= 0 && n <= FAR;
    }

    private static boolean isHalf(int what) {
        return what == 0 || what == 1;
    }

    private static boolean isOdds(int v, int n) {
        return v >= 0 && v <= 10 && n >= 0 && n <= LUCK_FAR;
    }

    private static boolean isSheet(int k) {
        return k >= 0 && k < SHEETS;
    }

    private static boolean isLane(int lane) {
        return lane >= 0 && lane < LANES;
    }

    /** A charge above every room is no charge at all; one above this cell's room is a matter of state. */
    private static boolean isOfUnit(int what, int v) {
        switch (what) {
            case 0: return v >= 0 && v < KINDS;
            case 1: return v >= 1 && v <= MOST_ROOM;
            case 2: return v >= 0 && v <= MOST_ROOM;
            case 3: return v >= 0 && v <= MOST_LEAK;
            default: return false;
        }
    }

    // ---- trials: hours as they would be, counted from 0 so that no bound of the counts is met

    private void startTrial() {
        trial.becomes(now);
        trial.stops = 0;
        trial.waste = 0;
        trial.done = 0;
        trial.bridged = NONE;
    }

    private int doneAsItIs(int n) {
        startTrial();
        trial.passHours(n);
        return trial.done;
    }

    private int doneWithSwapped(int i, int j, int n) {
        startTrial();
        trial.plan[i] = now.plan[j];
        trial.plan[j] = now.plan[i];
        trial.passHours(n);
        return trial.done;
    }

    private boolean trialNeverStops(int n) {
        for (int i = 0; i < n && trial.stops == 0; i++) {
            trial.passHour(trial.current());
        }
        return trial.stops == 0;
    }

    private boolean trialIsAsSeen() {
        int last = seen.lastHour();
        for (int n = 0; n <= last; n++) {
            if (!seen.agrees(n, trial)) {
                return false;
            }
            trial.passHour(trial.current());
        }
        return true;
    }

    private int leaksAsSeen(int c) {
        int bits = 0;
        for (int v = 0; v <= MOST_LEAK; v++) {
            startTrial();
            trial.leak[c] = v;
            bits |= trialIsAsSeen() ? 1 << v : 0;
        }
        return bits;
    }

    private void layCourses(int c, int bits) {
        for (int v = 0; v <= MOST_LEAK; v++) {
            if ((bits >> v & 1) == 1) {
                startTrial();
                trial.leak[c] = v;
                for (int n = 0; n <= SEEN_FAR; n++) {
                    courses[v][n] = trial.charge[c];
                    trial.passHour(trial.current());
                }
            }
        }
    }

    /** Of the leaks in bits, how many at most have one and the same charge behind n hours. */
    private int mostAlike(int bits, int n) {
        int most = 0;
        for (int v = 0; v <= MOST_LEAK; v++) {
            int alike = 0;
            for (int w = v; w <= MOST_LEAK; w++) {
                boolean both = (bits >> v & bits >> w & 1) == 1;
                alike += both && courses[v][n] == courses[w][n] ? 1 : 0;
            }
            most = Math.max(most, alike);
        }
        return most;
    }

    // ---- odds: bit h of fails says that the current of hour h fails

    private void runTrialFailing(int fails, int n) {
        startTrial();
        for (int h = 0; h < n; h++) {
            trial.passHour((fails >> h & 1) == 1 ? 0 : trial.current());
        }
    }

    private static long weightOf(int fails, int v, int n) {
        long weight = 1;
        for (int h = 0; h < n; h++) {
            weight *= (fails >> h & 1) == 1 ? v : 10 - v;
        }
        return weight;
    }

    private static long tenToThe(int n) {
        long power = 1;
        for (int i = 0; i < n; i++) {
            power *= 10;
        }
        return power;
    }

    private static long inLowestTerms(long over, long under, int what) {
        long divisor = greatestCommonDivisor(over, under);
        long asked = what == 0 ? over : under;
        return divisor > 0 ? asked / divisor : asked;
    }

    private static long greatestCommonDivisor(long one, long other) {
        long a = one;
        long b = other;
        // each second turn halves what is left, so a long needs fewer turns than this
        for (int i = 0; i < 200 && b != 0; i++) {
            long rest = a % b;
            a = b;
            b = rest;
        }
        return a;
    }

    /** The cells, the plan, and what is counted. */
    private static final class Row {
        int cells, signs, hour, stops, waste, done;
        int bridged = NONE;
        final int[] kind = new int[MOST_CELLS];
        final int[] room = new int[MOST_CELLS];
        final int[] charge = new int[MOST_CELLS];
        final int[] leak = new int[MOST_CELLS];
        final int[] plan = new int[MOST_SIGNS];

        void becomes(Row other) {
            cells = other.cells;
            signs = other.signs;
            hour = other.hour;
            stops = other.stops;
            waste = other.waste;
            done = other.done;
            System.arraycopy(other.kind, 0, kind, 0, MOST_CELLS);
            System.arraycopy(other.room, 0, room, 0, MOST_CELLS);
            System.arraycopy(other.charge, 0, charge, 0, MOST_CELLS);
            System.arraycopy(other.leak, 0, leak, 0, MOST_CELLS);
            System.arraycopy(other.plan, 0, plan, 0, MOST_SIGNS);
        }

        void becomesEmpty() {
            cells = 0;
            signs = 0;
            hour = 0;
            stops = 0;
            waste = 0;
            done = 0;
        }

        void appendCell(int ofKind, int itsRoom, int itsCharge, int itsLeak) {
            if (cells < MOST_CELLS) {
                kind[cells] = ofKind;
                room[cells] = itsRoom;
                charge[cells] = itsCharge;
                leak[cells] = itsLeak;
                cells++;
            }
        }

        void appendSign(int v) {
            if (signs < MOST_SIGNS) {
                plan[signs] = v;
                signs++;
            }
        }

        int current() {
            return signs > 0 ? plan[hour % signs] - NO_CURRENT : 0;
        }

        boolean stopsBy(int current) {
            for (int c = 0; c < cells; c++) {
                if (c != bridged && cellStopsBy(c, current)) {
                    return true;
                }
            }
            return false;
        }

        boolean cellStopsBy(int c, int current) {
            if (current > 0) {
                return kind[c] == PLAIN && charge[c] + current > room[c];
            }
            return current < 0 && kind[c] != PUMP && charge[c] < -current;
        }

        boolean stoppedBySending(int current) {
            if (stopsBy(current)) {
                stops = Math.min(MOST_COUNTED, stops + 1);
                return true;
            }
            for (int c = 0; c < cells; c++) {
                if (c != bridged && current > 0) {
                    takeInto(c, current);
                } else if (c != bridged && current < 0) {
                    giveFrom(c, -current);
                }
            }
            done = Math.min(MOST_COUNTED, done + doneBy(current));
            return false;
        }

        /** What is DONE by a current that does not stop. */
        int doneBy(int current) {
            return current < 0 && cells > 0 ? -current : 0;
        }

        void takeInto(int c, int amount) {
            int rest = amount - put(c, amount);
            if (rest > 0 && (kind[c] == SHARE || kind[c] == PUMP)) {
                rest -= put(poorest(c), rest);
            }
            waste = Math.min(MOST_COUNTED, waste + rest);
        }

        void giveFrom(int c, int amount) {
            int rest = amount - draw(c, amount);
            if (rest > 0 && kind[c] == PUMP) {
                draw(richest(c), rest);
            }
        }

        int put(int c, int amount) {
            int free = room[c] - charge[c];
            int taken = amount < free ? amount : free;
            charge[c] += taken;
            return taken;
        }

        int draw(int c, int amount) {
            int given = amount < charge[c] ? amount : charge[c];
            charge[c] -= given;
            return given;
        }

        /** From the last to the first, so that of several the first is left; the one that asks is never bridged. */
        int poorest(int asking) {
            int best = asking;
            for (int c = cells - 1; c >= 0; c--) {
                if (c != bridged && charge[c] <= charge[best]) {
                    best = c;
                }
            }
            return best;
        }

        int richest(int asking) {
            int best = asking;
            for (int c = cells - 1; c >= 0; c--) {
                if (c != bridged && charge[c] >= charge[best]) {
                    best = c;
                }
            }
            return best;
        }

        /** What is DONE in it, which the bound of DONE in all does not touch. */
        int passHour(int current) {
            boolean stopped = stoppedBySending(current);
            for (int c = 0; c < cells; c++) {
                charge[c] = Math.max(0, charge[c] - leak[c]);
            }
            hour++;
            return stopped ? 0 : doneBy(current);
        }

        int passHours(int n) {
            int doneInThem = 0;
            for (int i = 0; i < n; i++) {
                doneInThem += passHour(current());
            }
            return doneInThem;
        }

        int chargesSummed() {
            int sum = 0;
            for (int c = 0; c < cells; c++) {
                sum += charge[c];
            }
            return sum;
        }

        int roomsSummed() {
            int sum = 0;
            for (int c = 0; c < cells; c++) {
                sum += room[c];
            }
            return sum;
        }

        int signsSummed() {
            int sum = 0;
            for (int i = 0; i < signs; i++) {
                sum += plan[i];
            }
            return sum;
        }
    }

    /** Charges that were measured. */
    private static final class Seen {
        int size;
        final int[] hour = new int[MOST_SEEN];
        final int[] cell = new int[MOST_SEEN];
        final int[] value = new int[MOST_SEEN];

        void becomes(Seen other) {
            size = other.size;
            System.arraycopy(other.hour, 0, hour, 0, MOST_SEEN);
            System.arraycopy(other.cell, 0, cell, 0, MOST_SEEN);
            System.arraycopy(other.value, 0, value, 0, MOST_SEEN);
        }

        void append(int n, int c, int v) {
            if (size < MOST_SEEN) {
                hour[size] = n;
                cell[size] = c;
                value[size] = v;
                size++;
            }
        }

        int lastHour() {
            int last = -1;
            for (int i = 0; i < size; i++) {
                last = Math.max(last, hour[i]);
            }
            return last;
        }

        boolean agrees(int n, Row row) {
            for (int i = 0; i < size; i++) {
                if (hour[i] == n && row.charge[cell[i]] != value[i]) {
                    return false;
                }
            }
            return true;
        }
    }

    /** All that keep() keeps. */
    private static final class Image {
        boolean there;
        final Row row = new Row();
        final Seen seen = new Seen();
    }

    /** A row of places, with the faults that a machine's own row would have. */
    private static final class Sheet {
        boolean there;
        int lane, length;
        final int[] places = new int[MOST_PLACES];

        void becomesNew(int ofLane, int n) {
            there = true;
            lane = ofLane;
            length = n;
            for (int i = 0; i < MOST_PLACES; i++) {
                places[i] = 0;
            }
        }

        int lowestBits(int v) {
            return lane == 0 ? (byte) v : lane == 1 ? (short) v : v;
        }

        int wholePairs(int asLane, int f, int n) {
            if (!there || lane != asLane || f < 0 || f >= length) {
                return 0;
            }
            return Math.min(n, (length - f) / 2);
        }

        /** Where no place is read the machine finds nothing: the sheet is not even taken as of a lane. */
        int tornBy(int asLane, int whole, int n) {
            if (whole == n) {
                return NOTHING_TORN;
            }
            if (!there) {
                return TORN_NULL;
            }
            return lane != asLane ? TORN_CAST : TORN_INDEX;
        }
    }

    /** The bytes of the text, and how they are read. */
    private static final class Tape {
        private static final int END = 0, NAME = 1, NUMBER = 2, SEMICOLON = 3, NO_TOKEN = 4;
        private static final int UNREAD = 1, MISPLACED = 2, OUT_OF_BOUNDS = 3, PLAN_TWICE = 4, TOO_MANY = 5;

        int length, latestFault;
        final int[] bytes = new int[MOST_BYTES];
        int place, token, from, number;
        boolean planned;

        /** How many lines were told to the row, or -10 less the place of the fault. */
        int tellTo(Row row) {
            row.becomesEmpty();
            place = 0;
            planned = false;
            latestFault = 0;
            for (int lines = 0; lines <= MOST_BYTES; lines++) {
                toNextToken();
                if (token == END) {
                    return lines;
                }
                if (!lineIsTaken(row)) {
                    break;
                }
            }
            return -10 - from;
        }

        boolean lineIsTaken(Row row) {
            if (token != NAME) {
                return misplaced();
            }
            if (nameIs("plan")) {
                return planIsTaken(row);
            }
            int kind = kindNamed();
            return kind == NONE ? misplaced() : cellIsTaken(row, kind);
        }

        boolean cellIsTaken(Row row, int kind) {
            if (row.cells >= MOST_CELLS) {
                return refused(TOO_MANY);
            }
            if (!numberIsTaken(1, MOST_ROOM)) {
                return false;
            }
            int room = number;
            if (!numberIsTaken(0, room)) {
                return false;
            }
            int charge = number;
            if (!numberIsTaken(0, MOST_LEAK)) {
                return false;
            }
            row.appendCell(kind, room, charge, number);
            toNextToken();
            return token == SEMICOLON || misplaced();
        }

        boolean planIsTaken(Row row) {
            if (planned) {
                return refused(PLAN_TWICE);
            }
            planned = true;
            for (int i = 0; i <= MOST_SIGNS; i++) {
                toNextToken();
                if (token == SEMICOLON && i > 0) {
                    return true;
                }
                if (token != NUMBER) {
                    return misplaced();
                }
                if (i == MOST_SIGNS) {
                    return refused(TOO_MANY);
                }
                if (number > MOST_SIGN) {
                    return refused(OUT_OF_BOUNDS);
                }
                row.appendSign(number);
            }
            return misplaced();
        }

        boolean numberIsTaken(int least, int most) {
            toNextToken();
            if (token != NUMBER) {
                return misplaced();
            }
            return number >= least && number <= most || refused(OUT_OF_BOUNDS);
        }

        boolean misplaced() {
            return refused(token == NO_TOKEN ? UNREAD : MISPLACED);
        }

        boolean refused(int asFault) {
            latestFault = asFault;
            return false;
        }

        int kindNamed() {
            return nameIs("plain") ? PLAIN
                : nameIs("bleed") ? BLEED
                : nameIs("share") ? SHARE
                : nameIs("pump") ? PUMP
                : NONE;
        }

        boolean nameIs(String word) {
            if (place - from != word.length()) {
                return false;
            }
            for (int i = 0; i < word.length(); i++) {
                if (bytes[from + i] != word.charAt(i)) {
                    return false;
                }
            }
            return true;
        }

        void toNextToken() {
            passAll(' ', ' ');
            from = place;
            int first = place < length ? bytes[place] : NONE;
            if (first == NONE) {
                token = END;
            } else if (first >= 'a' && first <= 'z') {
                token = NAME;
                passAll('a', 'z');
            } else if (first >= '0' && first <= '9') {
                passAll('0', '9');
                token = place - from > 2 ? NO_TOKEN : NUMBER;
                number = numberPassed();
            } else {
                token = first == ';' ? SEMICOLON : NO_TOKEN;
                place++;
            }
        }

        void passAll(int least, int most) {
            while (place < length && bytes[place] >= least && bytes[place] <= most) {
                place++;
            }
        }

        int numberPassed() {
            int value = 0;
            for (int i = from; i < place; i++) {
                value = value * 10 + bytes[i] - '0';
            }
            return value;
        }
    }
}
