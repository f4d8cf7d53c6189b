/** Promises 23, 24 and 30: currents that fail, and currents by a seed. */
public final class OddsTest {
    public static void main(String[] args) {
        luck();
        mean();
        wrongNumbers();
        drift();
        Due.finish();
    }

    private static void luckIs(CellsInRow x, int v, int n, long over, long under) {
        Due.is("23 luck(" + v + ", " + n + ", 0)", x.luck(v, n, 0), over);
        Due.is("23 luck(" + v + ", " + n + ", 1)", x.luck(v, n, 1), under);
    }

    private static void meanIs(CellsInRow x, int v, int n, long over, long under) {
        Due.is("24 mean(" + v + ", " + n + ", 0)", x.mean(v, n, 0), over);
        Due.is("24 mean(" + v + ", " + n + ", 1)", x.mean(v, n, 1), under);
    }

    private static void luck() {
        CellsInRow full = Due.told("plain 9 9 0;plan 10;");
        luckIs(full, 3, 0, 1, 1);
        luckIs(full, 3, 1, 3, 10);
        luckIs(full, 3, 2, 9, 100);
        luckIs(full, 3, 8, 6561, 100000000);
        luckIs(full, 4, 8, 256, 390625);
        luckIs(full, 0, 8, 0, 1);
        luckIs(full, 10, 8, 1, 1);
        // one that comes takes all the room
        CellsInRow once = Due.told("plain 9 8 0;plan 10;");
        luckIs(once, 5, 2, 3, 4);
        luckIs(once, 1, 2, 19, 100);
        Due.charges("23 nothing is changed", once, 8);
        // it leaks in an hour in which the current fails, too
        luckIs(Due.told("plain 9 9 1;plan 10;"), 2, 2, 1, 5);
    }

    private static void mean() {
        CellsInRow pump = Due.told("pump 9 0 0;plan 4;");
        meanIs(pump, 3, 0, 0, 1);
        meanIs(pump, 3, 1, 7, 2);
        meanIs(pump, 3, 8, 28, 1);
        meanIs(pump, 10, 8, 0, 1);
        meanIs(pump, 9, 1, 1, 2);
        // an hour that stops does nothing, what is behind it goes on: 3 now, or 3 then, not both
        CellsInRow plain = Due.told("plain 9 3 0;plan 6;");
        meanIs(plain, 1, 1, 27, 10);
        meanIs(plain, 1, 2, 297, 100);
        Due.charges("24 nothing is changed", plain, 3);
    }

    private static void wrongNumbers() {
        CellsInRow x = Due.told("pump 9 0 0;plan 4;");
        int[][] bad = {{-1, 1, 0}, {11, 1, 0}, {1, -1, 0}, {1, 9, 0}, {1, 1, 2}, {1, 1, -1}};
        for (int[] b : bad) {
            Due.is("23 luck(" + b[0] + ", " + b[1] + ", " + b[2] + ")", x.luck(b[0], b[1], b[2]), -1);
            Due.is("24 mean(" + b[0] + ", " + b[1] + ", " + b[2] + ")", x.mean(b[0], b[1], b[2]), -1);
        }
    }

    private static int got(int seed) {
        return (int) (((seed * 1103515245L + 12345L) & 0xffffffffL) / 65536 % 32768);
    }

    private static void drift() {
        CellsInRow x = Due.told("pump 99 0 0;plan 9;");
        int[] seeds = {0, 1, 7, -1, 12345, Integer.MAX_VALUE, Integer.MIN_VALUE, 99, 100, -77};
        for (int seed : seeds) {
            int current = got(seed) % 19 - 9;
            Due.is("30 drift(" + seed + ", 1, 0)", x.drift(seed, 1, 0), Math.max(0, -current));
            Due.is("30 drift(" + seed + ", 1, 1)", x.drift(seed, 1, 1), Math.max(0, current));
            int second = got(seed * 1103515245 + 12345) % 19 - 9;
            Due.is("30 drift(" + seed + ", 2, 0)", x.drift(seed, 2, 0), Math.max(0, -current) + Math.max(0, -second));
        }
        Due.is("30 nothing is changed", x.rule(2) + x.rule(5) + x.rule(6), 0);
        // by itself: neither the hour nor the plan matters
        int was = x.drift(5, 200, 1);
        x.set(0, 0);
        x.alter(0, 2, 0);
        Due.is("30 without the plan", x.drift(5, 200, 1), was);
        Due.that("30 200 hours", was >= 0);
        CellsInRow leaky = Due.told("bleed 99 99 9;");
        Due.is("30 it leaks", leaky.drift(3, 200, 1) < 99 ? 1 : 0, 1);
        Due.is("30 drift(5, 0, 0)", x.drift(5, 0, 0), -1);
        Due.is("30 drift(5, 201, 0)", x.drift(5, 201, 0), -1);
        Due.is("30 drift(5, 1, 2)", x.drift(5, 1, 2), -1);
        Due.is("30 drift(5, 1, -1)", x.drift(5, 1, -1), -1);
        CellsInRow none = Due.told("plan 0;");
        Due.is("30 no cells", none.drift(5, 1, 0), -2);
        Due.is("30 no cells, bad", none.drift(5, 0, 0), -1);
    }
}
