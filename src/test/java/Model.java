import java.util.ArrayList;
import java.util.HashMap;
import java.util.List;
import java.util.Map;
import java.util.function.Consumer;
import java.util.function.ToIntFunction;
import java.util.regex.Matcher;
import java.util.regex.Pattern;
import java.math.BigInteger;

/**
 * The document once more, written another way and without care for speed or objects: lists, copies, expressions,
 * and rows of the machine itself, whose own exceptions are the faults of the sheets.
 */
final class Model {
    private static final int BAD = -1, STATE = -2, FULL = -3, NONE = -4;
    private static final List<String> KINDS = List.of("plain", "bleed", "share", "pump");

    static final class Cell {
        int kind, room, charge, leak;
        boolean bridged;

        Cell(int kind, int room, int charge, int leak) {
            this.kind = kind;
            this.room = room;
            this.charge = charge;
            this.leak = leak;
        }
    }

    record Sight(int n, int c, int v) {
    }

    /** All that an image holds. */
    static final class World {
        List<Cell> cells = new ArrayList<>();
        List<Integer> signs = new ArrayList<>();
        List<Sight> seen = new ArrayList<>();
        int hour, stops, waste, done;

        World copy() {
            World w = new World();
            for (Cell c : cells) {
                w.cells.add(new Cell(c.kind, c.room, c.charge, c.leak));
            }
            w.signs.addAll(signs);
            w.seen.addAll(seen);
            w.hour = hour;
            w.stops = stops;
            w.waste = waste;
            w.done = done;
            return w;
        }

        World fresh() {
            World w = copy();
            w.stops = w.waste = w.done = 0;
            return w;
        }

        int current() {
            return signs.isEmpty() ? 0 : signs.get(hour % signs.size()) - 9;
        }

        boolean stopsBy(int current) {
            for (Cell c : cells) {
                if (c.bridged) {
                    continue;
                }
                boolean full = current > 0 && c.charge + current > c.room && c.kind == 0;
                boolean empty = current < 0 && c.charge + current < 0 && c.kind <= 2;
                if (full || empty) {
                    return true;
                }
            }
            return false;
        }

        boolean send(int current) {
            if (stopsBy(current)) {
                stops++;
                return true;
            }
            for (Cell c : cells) {
                if (current > 0 && !c.bridged) {
                    take(c, current);
                }
                if (current < 0 && !c.bridged) {
                    give(c, -current);
                }
            }
            if (current < 0 && !cells.isEmpty()) {
                done -= current;
            }
            return false;
        }

        /** One unit after the other; the poorest is looked for when the first has no room. */
        private void take(Cell c, int amount) {
            Cell target = c;
            for (int i = 0; i < amount; i++) {
                if (target == c && c.charge == c.room && c.kind >= 2) {
                    target = extreme(1);
                }
                if (target.charge < target.room) {
                    target.charge++;
                } else {
                    waste++;
                }
            }
        }

        private void give(Cell c, int u) {
            int rest = Math.max(0, u - c.charge);
            c.charge = Math.max(0, c.charge - u);
            if (c.kind == 3) {
                Cell rich = extreme(-1);
                rich.charge = Math.max(0, rich.charge - rest);
            }
        }

        private Cell extreme(int by) {
            Cell best = null;
            for (Cell c : cells) {
                if (!c.bridged && (best == null || by * c.charge < by * best.charge)) {
                    best = c;
                }
            }
            return best;
        }

        void hour(int current) {
            send(current);
            for (Cell c : cells) {
                c.charge = c.charge < c.leak ? 0 : c.charge - c.leak;
            }
            hour++;
        }

        World after(int n) {
            World w = fresh();
            for (int i = 0; i < n; i++) {
                w.hour(w.current());
            }
            return w;
        }

        /** As it would be after n hours, with something else at first. */
        World after(int n, Consumer<World> change) {
            World w = fresh();
            change.accept(w);
            for (int i = 0; i < n; i++) {
                w.hour(w.current());
            }
            return w;
        }
    }

    private World now = new World();
    private final World[] images = new World[2];
    private final Object[] sheets = new Object[4];
    private final StringBuilder tape = new StringBuilder();
    private int fault;
    private int torn;

    long call(String name, int[] a) {
        switch (name) {
            case "feed": return a[0] < 0 || a[0] > 127 ? BAD : tape.length() == 160 ? FULL : tape.append((char) a[0]).length();
            case "end": return keepOf(a[0], tape.length(), () -> tape.setLength(a[0]));
            case "text": return text();
            case "fault": return fault;
            case "rule": return rule(a[0]);
            case "unit": return cell(a[0]) && in(a[1], 0, 3) ? unit(a[0], a[1]) : BAD;
            case "sign": return in(a[0], 0, now.signs.size() - 1) ? now.signs.get(a[0]) : BAD;
            case "alter": return alter(a[0], a[1], a[2]);
            case "set": return set(now, a[0], a[1]);
            case "add": return !in(a[0], 0, 18) ? BAD : now.signs.size() == 16 ? FULL : put(a[0]);
            case "cut": return keepOf(a[0], now.signs.size(), () -> now.signs.subList(a[0], now.signs.size()).clear());
            case "send": return in(a[0], 0, 18) ? limited(() -> now.send(a[0] - 9) ? 1 : 0) : BAD;
            case "hours": return hours(a[0]);
            case "runs": return in(a[0], 0, 200) && in(a[1], 0, 3) ? runs(now.after(a[0]), a[1]) : BAD;
            case "ahead": return cell(a[0]) && in(a[1], 0, 200) ? now.after(a[1]).cells.get(a[0]).charge : BAD;
            case "when": return when();
            case "kind": return cell(a[0]) && in(a[1], 0, 200) && in(a[2], 0, 1)
                ? best(4, a[2], k -> now.after(a[1], w -> w.cells.get(a[0]).kind = k).done, -1) : BAD;
            case "begin": return cell(a[0]) && in(a[1], 0, 200) && in(a[2], 0, 1)
                ? best(now.cells.get(a[0]).room + 1, a[2], v -> now.after(a[1], w -> w.cells.get(a[0]).charge = v).done, -1) : BAD;
            case "need": return cell(a[0]) && in(a[1], 0, 200) ? need(a[0], a[1]) : BAD;
            case "swap": return in(a[0], 0, 200) && in(a[1], 0, 1) ? swap(a[0], a[1]) : BAD;
            case "bridge": return in(a[0], 0, 200) && in(a[1], 0, 1)
                ? best(now.cells.size(), a[1], c -> now.after(a[0], w -> w.cells.get(c).bridged = true).done, now.after(a[0]).done) : BAD;
            case "luck": return in(a[0], 0, 10) && in(a[1], 0, 8) && in(a[2], 0, 1) ? fraction(luck(now.fresh(), a[0], a[1]), a[1], a[2]) : BAD;
            case "mean": return in(a[0], 0, 10) && in(a[1], 0, 8) && in(a[2], 0, 1) ? fraction(mean(now.fresh(), a[0], a[1]), a[1], a[2]) : BAD;
            case "see": return see(a[0], a[1], a[2]);
            case "forget": return keepOf(a[0], now.seen.size(), () -> now.seen.subList(a[0], now.seen.size()).clear());
            case "kinds": return cell(a[0]) ? bits(4, k -> w -> w.cells.get(a[0]).kind = k) : BAD;
            case "leaks": return cell(a[0]) ? leaks(a[0]) : BAD;
            case "ask": return cell(a[0]) && in(a[1], 0, 1) ? ask(a[0], a[1]) : BAD;
            case "drift": return !in(a[1], 1, 200) || !in(a[2], 0, 1) ? BAD : now.cells.isEmpty() ? STATE : drift(a[0], a[1], a[2]);
            case "keep": return in(a[0], 0, 1) ? keep(a[0]) : BAD;
            case "back": return !in(a[0], 0, 1) ? BAD : images[a[0]] == null ? STATE : back(a[0]);
            case "sheet": return sheet(a[0], a[1], a[2]);
            case "lay": return in(a[0], 0, 3) ? lay(sheets[a[0]], a[1], a[2]) : BAD;
            case "read": return in(a[0], 0, 3) && in(a[1], 0, 2) && in(a[3], 0, 20) ? read(a[0], a[1], a[2], a[3]) : BAD;
            case "torn": return torn;
            case "count": return count(a[0]);
            default: throw new IllegalArgumentException(name);
        }
    }

    private static boolean in(int v, int least, int most) {
        return v >= least && v <= most;
    }

    private boolean cell(int c) {
        return in(c, 0, now.cells.size() - 1);
    }

    private static int keepOf(int n, int size, Runnable cut) {
        if (!in(n, 0, size)) {
            return BAD;
        }
        cut.run();
        return size;
    }

    /** What is counted is held at 9999 after each call that runs the present. */
    private int limited(java.util.function.IntSupplier run) {
        int answer = run.getAsInt();
        now.stops = Math.min(now.stops, 9999);
        now.waste = Math.min(now.waste, 9999);
        now.done = Math.min(now.done, 9999);
        return answer;
    }

    private int text() {
        String all = tape.toString();
        tape.setLength(0);
        fault = 0;
        World w = new World();
        Matcher m = Pattern.compile(" *(?:([a-z]+)|([0-9]+)|(;)|(.)|($))", Pattern.DOTALL).matcher(all);
        boolean planned = false;
        // what may stand next: 0 a line, 1 to 3 a cell's numbers, 4 a line's end, 5 the first sign, 6 a sign or the end
        int next = 0;
        int lines = 0;
        while (m.find()) {
            String name = m.group(1);
            String number = m.group(2);
            int place = m.start(name != null ? 1 : number != null ? 2 : m.group(3) != null ? 3 : m.group(4) != null ? 4 : 5);
            boolean end = name == null && number == null && m.group(3) == null && m.group(4) == null;
            if (m.group(4) != null || number != null && number.length() > 2) {
                return faulty(1, place);
            }
            if (end) {
                if (next == 0) {
                    now = w;
                    images[0] = images[1] = null;
                    return lines;
                }
                return faulty(2, all.length());
            }
            if (next == 0) {
                if (name == null || !name.equals("plan") && !KINDS.contains(name)) {
                    return faulty(2, place);
                }
                if (name.equals("plan")) {
                    if (planned) {
                        return faulty(4, place);
                    }
                    planned = true;
                    next = 5;
                } else {
                    if (w.cells.size() == 5) {
                        return faulty(5, place);
                    }
                    w.cells.add(new Cell(KINDS.indexOf(name), 0, 0, 0));
                    next = 1;
                }
                continue;
            }
            boolean ends = m.group(3) != null && (next == 4 || next == 6);
            if (ends) {
                next = 0;
                lines++;
                continue;
            }
            if (number == null || next == 4) {
                return faulty(2, place);
            }
            int v = Integer.parseInt(number);
            if (next >= 5) {
                if (w.signs.size() == 16) {
                    return faulty(5, place);
                }
                if (v > 18) {
                    return faulty(3, place);
                }
                w.signs.add(v);
                next = 6;
                continue;
            }
            Cell c = w.cells.get(w.cells.size() - 1);
            if (next == 1 && v == 0 || next == 2 && v > c.room || next == 3 && v > 9) {
                return faulty(3, place);
            }
            if (next == 1) {
                c.room = v;
            } else if (next == 2) {
                c.charge = v;
            } else {
                c.leak = v;
            }
            next++;
        }
        throw new IllegalStateException("a text without an end: " + all);
    }

    private int faulty(int f, int place) {
        fault = f;
        return -10 - place;
    }

    private int rule(int what) {
        int[] all = {now.cells.size(), now.signs.size(), now.hour, now.stops, now.waste, now.done,
            now.cells.stream().mapToInt(c -> c.charge).sum(), now.stopsBy(now.current()) ? 1 : 0};
        return in(what, 0, 7) ? all[what] : BAD;
    }

    private int unit(int c, int what) {
        Cell x = now.cells.get(c);
        return new int[] {x.kind, x.room, x.charge, x.leak}[what];
    }

    private int alter(int c, int what, int v) {
        int[] least = {0, 1, 0, 0};
        int[] most = {3, 99, 99, 9};
        if (!cell(c) || !in(what, 0, 3) || !in(v, least[what], most[what])) {
            return BAD;
        }
        Cell x = now.cells.get(c);
        if (what == 1 && v < x.charge || what == 2 && v > x.room) {
            return STATE;
        }
        int was = unit(c, what);
        switch (what) {
            case 0 -> x.kind = v;
            case 1 -> x.room = v;
            case 2 -> x.charge = v;
            default -> x.leak = v;
        }
        return was;
    }

    private static int set(World w, int i, int v) {
        return in(i, 0, w.signs.size() - 1) && in(v, 0, 18) ? w.signs.set(i, v) : BAD;
    }

    private int put(int v) {
        now.signs.add(v);
        return now.signs.size();
    }

    private int hours(int n) {
        if (!in(n, 0, 100)) {
            return BAD;
        }
        if (now.hour + n >= 10000) {
            return FULL;
        }
        int before = now.done;
        return limited(() -> {
            for (int i = 0; i < n; i++) {
                now.hour(now.current());
            }
            return now.done - before;
        });
    }

    private static int runs(World w, int what) {
        return new int[] {w.done, w.stops, w.waste, w.cells.stream().mapToInt(c -> c.charge).sum()}[what];
    }

    private int when() {
        for (int n = 0; n <= 200; n++) {
            World w = now.after(n);
            if (w.stopsBy(w.current())) {
                return n;
            }
        }
        return NONE;
    }

    private static int best(int choices, int what, ToIntFunction<Integer> done, int most) {
        int best = NONE;
        for (int i = 0; i < choices; i++) {
            int d = done.applyAsInt(i);
            if (d > most) {
                most = d;
                best = i;
            }
        }
        return best == NONE || what == 0 ? best : most;
    }

    private int need(int c, int n) {
        for (int v = 1; v <= 99; v++) {
            int room = v;
            if (v >= now.cells.get(c).charge && now.after(n, w -> w.cells.get(c).room = room).stops == 0) {
                return v;
            }
        }
        return NONE;
    }

    private int swap(int n, int what) {
        int size = now.signs.size();
        int answer = best(size * size, what, p -> {
            int i = p / size;
            int j = p % size;
            return i >= j ? -1 : now.after(n, w -> java.util.Collections.swap(w.signs, i, j)).done;
        }, now.after(n).done);
        return answer == NONE || what == 1 ? answer : answer / size * 100 + answer % size;
    }

    private static World stepped(World w, boolean fails) {
        World next = w.copy();
        next.hour(fails ? 0 : next.current());
        return next;
    }

    /** Out of ten to the power of n. */
    private static long luck(World w, int v, int n) {
        if (w.stops > 0) {
            return 0;
        }
        return n == 0 ? 1 : v * luck(stepped(w, true), v, n - 1) + (10 - v) * luck(stepped(w, false), v, n - 1);
    }

    private static long mean(World w, int v, int n) {
        return n == 0 ? w.done : v * mean(stepped(w, true), v, n - 1) + (10 - v) * mean(stepped(w, false), v, n - 1);
    }

    private static long fraction(long over, int n, int what) {
        BigInteger under = BigInteger.TEN.pow(n);
        BigInteger divisor = BigInteger.valueOf(over).gcd(under);
        return (what == 0 ? BigInteger.valueOf(over) : under).divide(divisor).longValueExact();
    }

    private int see(int n, int c, int v) {
        if (!in(n, 0, 40) || !cell(c) || !in(v, 0, 99)) {
            return BAD;
        }
        if (now.seen.size() == 6) {
            return FULL;
        }
        now.seen.add(new Sight(n, c, v));
        return now.seen.size();
    }

    private int bits(int choices, java.util.function.IntFunction<Consumer<World>> change) {
        int bits = 0;
        for (int i = 0; i < choices; i++) {
            boolean all = true;
            for (Sight s : now.seen) {
                all &= now.after(s.n(), change.apply(i)).cells.get(s.c()).charge == s.v();
            }
            bits += all ? 1 << i : 0;
        }
        return bits;
    }

    private int leaks(int c) {
        return bits(10, v -> w -> w.cells.get(c).leak = v);
    }

    private int ask(int c, int what) {
        int left = leaks(c);
        int fewest = Integer.bitCount(left);
        int best = NONE;
        for (int n = 0; n <= 40; n++) {
            Map<Integer, Integer> groups = new HashMap<>();
            for (int v = 0; v <= 9; v++) {
                if ((left & 1 << v) != 0) {
                    int leak = v;
                    groups.merge(now.after(n, w -> w.cells.get(c).leak = leak).cells.get(c).charge, 1, Integer::sum);
                }
            }
            int worst = groups.values().stream().mapToInt(g -> g).max().orElse(0);
            if (worst < fewest) {
                fewest = worst;
                best = n;
            }
        }
        return best == NONE || what == 0 ? best : fewest;
    }

    private int drift(int seed, int n, int what) {
        World w = now.fresh();
        BigInteger s = BigInteger.valueOf(seed);
        for (int i = 0; i < n; i++) {
            s = s.multiply(BigInteger.valueOf(1103515245)).add(BigInteger.valueOf(12345)).mod(BigInteger.ONE.shiftLeft(32));
            w.hour(s.shiftRight(16).mod(BigInteger.ONE.shiftLeft(15)).intValueExact() % 19 - 9);
        }
        return runs(w, what == 0 ? 0 : 3);
    }

    private int keep(int k) {
        int was = images[k] == null ? 0 : 1;
        images[k] = now.copy();
        return was;
    }

    private int back(int k) {
        now = images[k].copy();
        return now.hour;
    }

    private int sheet(int k, int lane, int n) {
        if (!in(k, 0, 3) || !in(lane, 0, 2) || n > 40) {
            return BAD;
        }
        try {
            sheets[k] = lane == 0 ? new byte[n] : lane == 1 ? (Object) new short[n] : new int[n];
            return 1;
        } catch (NegativeArraySizeException e) {
            return -14;
        }
    }

    private static int lay(Object sheet, int i, int v) {
        try {
            if (sheet instanceof byte[] b) {
                b[i] = (byte) v;
            } else if (sheet instanceof short[] s) {
                s[i] = (short) v;
            } else {
                ((int[]) sheet)[i] = v;
            }
            return 1;
        } catch (NullPointerException e) {
            return -11;
        } catch (ArrayIndexOutOfBoundsException e) {
            return -12;
        }
    }

    private int read(int k, int lane, int f, int n) {
        World w = now.copy();
        int came = 0;
        int found = 0;
        try {
            for (; came < n; came++) {
                byte[] b = lane == 0 ? (byte[]) sheets[k] : null;
                short[] s = lane == 1 ? (short[]) sheets[k] : null;
                int[] i = lane == 2 ? (int[]) sheets[k] : null;
                int at = f + 2 * came;
                int which = lane == 0 ? b[at] : lane == 1 ? s[at] : i[at];
                int v = lane == 0 ? b[at + 1] : lane == 1 ? s[at + 1] : i[at + 1];
                if (set(w, which, v) == BAD) {
                    return -20 - came;
                }
            }
        } catch (NullPointerException e) {
            found = 1;
        } catch (ArrayIndexOutOfBoundsException e) {
            found = 2;
        } catch (ClassCastException e) {
            found = 3;
        }
        now = w;
        torn = found;
        return came;
    }

    private int count(int what) {
        switch (what) {
            case 0: return now.seen.size();
            case 1: return (images[0] == null ? 0 : 1) + (images[1] == null ? 0 : 1);
            case 2: return tape.length();
            case 3: return sheets[0] == null ? NONE : java.lang.reflect.Array.getLength(sheets[0]);
            case 4: return now.cells.stream().mapToInt(c -> c.room).sum();
            case 5: return now.signs.stream().mapToInt(i -> i).sum();
            default: return BAD;
        }
    }
}
