/** The edges of promises 23, 24 and 30, a sentence at a time. */
public final class OddsEdgesTest {
    public static void main(String[] args) {
        asked();
        lucksOfOdds();
        lucksOfHours();
        lucksOfFailing();
        meansOfOdds();
        meansOfHours();
        lowestTerms();
        driftsAsked();
        driftsOfSeeds();
        driftsByItself();
        Due.finish();
    }

    private static long power(long of, int n) {
        long p = 1;
        for (int i = 0; i < n; i++) {
            p *= of;
        }
        return p;
    }

    private static void luckIs(String when, Edge.Made made, int v, int n, long over, long under) {
        Edge.stays(when + " luck(" + v + ", " + n + ", 0)", made, x -> x.luck(v, n, 0), over);
        Edge.stays(when + " luck(" + v + ", " + n + ", 1)", made, x -> x.luck(v, n, 1), under);
    }

    private static void meanIs(String when, Edge.Made made, int v, int n, long over, long under) {
        Edge.stays(when + " mean(" + v + ", " + n + ", 0)", made, x -> x.mean(v, n, 0), over);
        Edge.stays(when + " mean(" + v + ", " + n + ", 1)", made, x -> x.mean(v, n, 1), under);
    }

    private static void asked() {
        Due.sentence("23, 24: n HOURS (0 to 8), v out of ten (0 to 10), 0, 1. BAD");
        for (int v : new int[] {-1, 11, Edge.LEAST, Edge.MOST}) {
            Edge.stays("luck(" + v + ", 1, 0)", x -> x.luck(v, 1, 0), Edge.BAD);
            Edge.stays("mean(" + v + ", 1, 0)", x -> x.mean(v, 1, 0), Edge.BAD);
        }
        for (int n : new int[] {-1, 9, Edge.LEAST, Edge.MOST}) {
            Edge.stays("luck(1, " + n + ", 0)", x -> x.luck(1, n, 0), Edge.BAD);
            Edge.stays("mean(1, " + n + ", 0)", x -> x.mean(1, n, 0), Edge.BAD);
        }
        for (int what : new int[] {-1, 2, Edge.LEAST, Edge.MOST}) {
            Edge.stays("luck(1, 1, " + what + ")", x -> x.luck(1, 1, what), Edge.BAD);
            Edge.stays("mean(1, 1, " + what + ")", x -> x.mean(1, 1, what), Edge.BAD);
        }
    }

    private static void lucksOfOdds() {
        Due.sentence("23: the CURRENT fails by v out of ten (0 to 10), n HOURS (0 to 8): that it STOPS in none of them");
        // full: it stops by each current that does not fail
        Edge.Made full = Edge.of("plain 9 9 0;plan 10;");
        for (int n : new int[] {0, 1, 2, 7, 8}) {
            luckIs("never fails", full, 0, n, n == 0 ? 1 : 0, 1);
            luckIs("hardly ever fails", full, 1, n, 1, power(10, n));
            luckIs("fails half the time", full, 5, n, 1, power(2, n));
            luckIs("hardly ever comes", full, 9, n, power(9, n), power(10, n));
            luckIs("never comes", full, 10, n, 1, 1);
        }
    }

    private static void lucksOfHours() {
        Due.sentence("23: In each of n HOURS (0 to 8)");
        // it would stop in hour 7, which is the 8th
        Edge.Made eighth = Edge.of("bleed 9 0 0;plan 9 9 9 9 9 9 9 8 9;");
        luckIs("7 hours", eighth, 3, 7, 1, 1);
        luckIs("8 hours", eighth, 3, 8, 3, 10);
        Edge.Made ninth = Edge.of("bleed 9 0 0;plan 9 9 9 9 9 9 9 9 8;");
        luckIs("8 hours", ninth, 3, 8, 1, 1);
        Edge.Made first = Edge.of("bleed 9 0 0;plan 8 9 9 9 9 9 9 9 9;");
        luckIs("0 hours", first, 3, 0, 1, 1);
        luckIs("1 hour", first, 3, 1, 3, 10);
        luckIs("8 hours", first, 3, 8, 3, 10);
    }

    private static void lucksOfFailing() {
        Due.sentence("23: the CURRENT fails, by itself (it is none then)");
        // room for one: of two hours one fails at least
        Edge.Made once = Edge.of("plain 9 8 0;plan 10;");
        luckIs("two hours", once, 1, 2, 19, 100);
        luckIs("two hours", once, 5, 2, 3, 4);
        // it leaks in an hour in which the current fails, too: hour 1 comes in any case
        luckIs("leaks", Edge.of("plain 9 9 1;plan 10;"), 2, 2, 1, 5);
        // that hour 0 fails is what makes hour 1 stop
        luckIs("down behind up", Edge.of("bleed 9 0 0;plan 10 8;"), 1, 2, 91, 100);
    }

    private static void meansOfOdds() {
        Due.sentence("24: Likewise, the mean of what is DONE in them");
        Edge.Made pump = Edge.of("pump 9 0 0;plan 4;");
        for (int n : new int[] {0, 1, 2, 7, 8}) {
            meanIs("never fails", pump, 0, n, 5 * n, 1);
            meanIs("fails by 2", pump, 2, n, 4 * n, 1);
            meanIs("fails by 9", pump, 9, n, n % 2 == 0 ? n / 2 : n, n % 2 == 0 ? 1 : 2);
            meanIs("never comes", pump, 10, n, 0, 1);
        }
        meanIs("9 down", Edge.of("pump 9 0 0;plan 0;"), 1, 1, 81, 10);
        meanIs("9 down", Edge.of("pump 9 0 0;plan 0;"), 9, 1, 9, 10);
        meanIs("up", Edge.of("pump 9 0 0;plan 18;"), 5, 8, 0, 1);
        meanIs("no cells", Edge.of("plan 0;"), 5, 8, 0, 1);
    }

    private static void meansOfHours() {
        Due.sentence("24: n HOURS (0 to 8)");
        Edge.Made eighth = Edge.of("pump 9 0 0;plan 9 9 9 9 9 9 9 8 9;");
        meanIs("7 hours", eighth, 3, 7, 0, 1);
        meanIs("8 hours", eighth, 3, 8, 7, 10);
        meanIs("9th hour", Edge.of("pump 9 0 0;plan 9 9 9 9 9 9 9 9 8;"), 3, 8, 0, 1);
        // 3 now, or 3 then, not both; where it stops nothing is done
        meanIs("once", Edge.of("plain 9 3 0;plan 6;"), 1, 2, 297, 100);
        // beyond 9999 in all, too
        CellsInRow x = Due.told("pump 1 0 0;plan 0;");
        for (int i = 0; i < 12; i++) {
            x.hours(100);
        }
        Due.is("DONE", x.rule(5), 9999);
        Due.is("mean(0, 8, 0)", x.mean(0, 8, 0), 72);
    }

    private static void lowestTerms() {
        Due.sentence("Fractions are in lowest terms, the denominator above 0 (0 is 0 by 1)");
        Edge.Made full = Edge.of("plain 9 9 0;plan 10;");
        luckIs("0", full, 0, 8, 0, 1);
        luckIs("1", full, 10, 8, 1, 1);
        luckIs("256 by 390625", full, 4, 8, 256, 390625);
        luckIs("6561 by 100000000", full, 3, 8, 6561, 100000000);
        luckIs("one hundred-millionth", full, 1, 8, 1, 100000000);
        meanIs("0", full, 5, 8, 0, 1);
    }

    private static void driftsAsked() {
        Due.sentence("30: n HOURS (1 to 200), what 0, 1. BAD; STATE: there are no CELLS");
        Edge.Made none = Edge.of("plan 0;");
        for (int n : new int[] {-1, 0, 201, 202, Edge.LEAST, Edge.MOST}) {
            Edge.stays("drift(7, " + n + ", 0)", x -> x.drift(7, n, 0), Edge.BAD);
            Edge.stays("drift(7, " + n + ", 0) without cells", none, x -> x.drift(7, n, 0), Edge.BAD);
        }
        for (int what : new int[] {-1, 2, Edge.LEAST, Edge.MOST}) {
            Edge.stays("drift(7, 1, " + what + ")", x -> x.drift(7, 1, what), Edge.BAD);
            Edge.stays("drift(7, 1, " + what + ") without cells", none, x -> x.drift(7, 1, what), Edge.BAD);
        }
        for (int n : new int[] {1, 200}) {
            Edge.stays("drift(7, " + n + ", 0) without cells", none, x -> x.drift(7, n, 0), Edge.STATE);
            Edge.stays("drift(7, " + n + ", 1) without cells", none, x -> x.drift(7, n, 1), Edge.STATE);
        }
    }

    private static void driftsOfSeeds() {
        Due.sentence("30: the seed becomes seed times 1103515245 and 12345; bits 16 to 30 of it are got: got modulo 19 is the SIGN");
        Edge.Made made = Edge.of("pump 99 40 0;plan 0 18;", x -> x.hours(1));
        for (int seed : new int[] {0, 1, -1, 7, 65535, 65536, Edge.MOST, Edge.MOST - 1, Edge.LEAST, Edge.LEAST + 1}) {
            long s = seed;
            int charge = 31;
            int done = 0;
            for (int n = 1; n <= 200; n++) {
                s = (s * 1103515245L + 12345L) & 0xffffffffL;
                int current = (int) (s / 65536 % 32768 % 19) - 9;
                charge = Math.max(0, Math.min(99, charge + current));
                done += Math.max(0, -current);
                if (n < 4 || n > 198) {
                    int hours = n;
                    Edge.stays("drift(" + seed + ", " + n + ", 0)", made, x -> x.drift(seed, hours, 0), done);
                    Edge.stays("drift(" + seed + ", " + n + ", 1)", made, x -> x.drift(seed, hours, 1), charge);
                }
            }
        }
    }

    private static void driftsByItself() {
        Due.sentence("30: By itself: what is DONE in them, CHARGES in the end, summed");
        // neither the plan nor HOUR nor what was DONE ahead is asked for
        CellsInRow x = Due.told("pump 50 20 1;bleed 60 30 2;plan 0 18;");
        CellsInRow y = Due.told("pump 50 20 1;bleed 60 30 2;");
        for (int i = 0; i < 3; i++) {
            y.hours(1);
            y.alter(0, 2, 20);
            y.alter(1, 2, 30);
            y.send(8);
            y.alter(0, 2, 20);
            y.alter(1, 2, 30);
        }
        for (int n : new int[] {1, 2, 50, 199, 200}) {
            Due.is("drift(5, " + n + ", 0)", x.drift(5, n, 0), y.drift(5, n, 0));
            Due.is("drift(5, " + n + ", 1)", x.drift(5, n, 1), y.drift(5, n, 1));
        }
        // what stops does nothing, what leaks is gone
        Due.is("it stops, or is filled and leaks", Due.told("bleed 1 0 9;").drift(5, 200, 1), 0);
        Due.is("an empty one gives nothing but 1", Due.told("bleed 1 0 9;").drift(5, 200, 0), 0);
    }
}
