/** The edges of promises 14 to 17, of AN HOUR and of BY HOURS, a sentence at a time. */
public final class HoursEdgesTest {
    /** 1 down in each eighth hour: in hour 199, not in 198 nor in 200. */
    static final String EIGHTH_DOWN = "plan 9 9 9 9 9 9 9 8;";
    private static final int SIXTEEN = 16;

    public static void main(String[] args) {
        manyHours();
        doneInThem();
        lastHour();
        signOfAnHour();
        signOfAnHourByOthers();
        noSigns();
        leaks();
        leaksWhereItStops();
        leaksBehindTheCurrent();
        runsAsked();
        runsOfHours();
        runsInAll();
        beyondTheLastHour();
        aheadAsked();
        aheadOfHours();
        firstHour();
        firstHourOfNone();
        Due.finish();
    }

    /** At hour 9900 plus n. */
    private static CellsInRow late(String text, int n) {
        CellsInRow x = Due.told(text);
        for (int i = 0; i < 99; i++) {
            x.hours(100);
        }
        x.hours(n);
        return x;
    }

    private static void manyHours() {
        Due.sentence("14: n HOURS (0 to 100). BAD");
        for (int n : new int[] {-1, 101, 200, Edge.LEAST, Edge.MOST}) {
            Edge.stays("hours(" + n + ")", x -> x.hours(n), Edge.BAD);
        }
        Edge.stays("hours(0)", x -> x.hours(0), 0);
        for (int n : new int[] {1, 2, 99, 100}) {
            CellsInRow x = Due.told("pump 9 0 0;plan 8;");
            Due.is("hours(" + n + ")", x.hours(n), n);
            Due.is("HOUR", x.rule(2), n);
            Due.is("DONE", x.rule(5), n);
        }
    }

    private static void doneInThem() {
        Due.sentence("14: what is DONE in them");
        CellsInRow x = Due.told("bleed 9 3 0;plan 7 9 10 0;");
        Due.is("2 down", x.hours(1), 2);
        Due.is("none", x.hours(1), 0);
        Due.is("1 up", x.hours(1), 0);
        Due.is("it stops", x.hours(1), 0);
        Due.is("2 down of 2", x.hours(1), 2);
        Due.is("none, 1 up, it stops, it stops", x.hours(4), 0);
        Due.is("DONE", x.rule(5), 4);
        x.send(8);
        Due.is("DONE by send(), too", x.rule(5), 5);
        Due.is("but not in these", x.hours(1), 0);
    }

    private static void lastHour() {
        Due.sentence("14: FULL: HOUR would be 10000 or more. HOUR: 0 to 9999");
        Edge.Made at9900 = () -> late("bleed 9 9 1;pump 9 0 0;plan 8 10;", 0);
        Edge.stays("hours(100) at 9900", at9900, x -> x.hours(100), Edge.FULL);
        Edge.stays("hours(101) at 9900", at9900, x -> x.hours(101), Edge.BAD);
        Edge.stays("hours(-1) at 9900", at9900, x -> x.hours(-1), Edge.BAD);
        for (int n : new int[] {98, 99}) {
            CellsInRow x = late("pump 9 0 0;plan 8;", 0);
            Due.is("hours(" + n + ") at 9900", x.hours(n), n);
            Due.is("HOUR", x.rule(2), 9900 + n);
        }
        Edge.Made at9998 = () -> late("bleed 9 9 1;pump 9 0 0;plan 8 10;", 98);
        Edge.stays("hours(2) at 9998", at9998, x -> x.hours(2), Edge.FULL);
        Edge.stays("hours(0) at 9998", at9998, x -> x.hours(0), 0);
        Edge.Made at9999 = () -> late("bleed 9 9 1;pump 9 0 0;plan 8 10;", 99);
        Edge.stays("hours(1) at 9999", at9999, x -> x.hours(1), Edge.FULL);
        Edge.stays("hours(100) at 9999", at9999, x -> x.hours(100), Edge.FULL);
        Edge.stays("hours(101) at 9999", at9999, x -> x.hours(101), Edge.BAD);
        Edge.stays("hours(-1) at 9999", at9999, x -> x.hours(-1), Edge.BAD);
        Edge.stays("hours(0) at 9999", at9999, x -> x.hours(0), 0);
        CellsInRow x = late("pump 9 0 0;plan 8;", 98);
        Due.is("hours(1) at 9998", x.hours(1), 1);
        Due.is("HOUR", x.rule(2), 9999);
        Due.is("send(8) at 9999", x.send(8), 0);
        Due.is("HOUR stays", x.rule(2), 9999);
    }

    private static void signOfAnHour() {
        Due.sentence("AN HOUR: the CURRENT of the SIGN that HOUR leaves by SIGNS");
        for (int signs = 1; signs <= SIXTEEN; signs++) {
            StringBuilder plan = new StringBuilder("pump 9 0 0;plan");
            int[] down = new int[signs];
            for (int i = 0; i < signs; i++) {
                down[i] = (i * 7 + 3) % 10;
                plan.append(' ').append(9 - down[i]);
            }
            CellsInRow x = Due.told(plan + ";");
            for (int hour = 0; hour < 2 * signs + 2; hour++) {
                Due.is("hour " + hour + " of " + signs + " signs", x.hours(1), down[hour % signs]);
            }
        }
    }

    private static void signOfAnHourByOthers() {
        Due.sentence("AN HOUR: the SIGN that HOUR leaves by SIGNS, however many there are by then");
        CellsInRow x = Due.told("pump 9 0 0;plan 8 7 6 5 4 3;");
        x.hours(11);
        Due.is("hour 11 of 6", x.runs(1, 0), 6);
        x.cut(5);
        Due.is("hour 11 of 5", x.runs(1, 0), 2);
        x.cut(4);
        Due.is("hour 11 of 4", x.runs(1, 0), 4);
        x.cut(1);
        Due.is("hour 11 of 1", x.runs(1, 0), 1);
        x.add(0);
        Due.is("hour 11 of 2", x.hours(1), 9);
        Due.is("hour 12 of 2", x.hours(1), 1);
    }

    private static void noSigns() {
        Due.sentence("AN HOUR: (none, if there are none)");
        CellsInRow x = Due.told("plain 9 0 0;bleed 9 9 0;plan 0;");
        x.cut(0);
        Due.is("hours(7)", x.hours(7), 0);
        int[] rules = {2, 0, 7, 0, 0, 0, 9, 0};
        for (int what = 0; what <= 7; what++) {
            Due.is("rule(" + what + ")", x.rule(what), rules[what]);
        }
        Due.is("when()", x.when(), Edge.NONE);
        x.add(0);
        Due.is("one sign more", x.when(), 0);
    }

    private static void leaks() {
        Due.sentence("Then CHARGE of each CELL is less by its LEAK (0 at least)");
        for (int leak : new int[] {0, 1, 3, 9}) {
            for (int charge = Math.max(0, leak - 2); charge <= leak + 2; charge++) {
                CellsInRow x = Due.told("plain 20 " + charge + " " + leak + ";bleed 20 20 1;");
                x.hours(1);
                Due.charges("charge " + charge + ", leak " + leak, x, Math.max(0, charge - leak), 19);
                x.hours(1);
                Due.charges("once more", x, Math.max(0, charge - 2 * leak), 18);
            }
        }
    }

    private static void leaksWhereItStops() {
        Due.sentence("STOPS it by that, STOPS is 1 more. Else ... Then CHARGE of each CELL is less by its LEAK");
        CellsInRow x = Due.told("plain 9 9 2;bleed 9 4 3;plan 10;");
        Due.is("hours(1)", x.hours(1), 0);
        Due.charges("it stopped and leaked", x, 7, 1);
        Due.is("STOPS", x.rule(3), 1);
        Due.is("HOUR", x.rule(2), 1);
        Due.is("hours(1)", x.hours(1), 0);
        Due.charges("it went and leaked", x, 6, 0);
        Due.is("STOPS", x.rule(3), 1);
    }

    private static void leaksBehindTheCurrent() {
        Due.sentence("Else each CELL TAKES it or GIVES it. Then CHARGE of each CELL is less by its LEAK");
        CellsInRow x = Due.told("bleed 9 9 3;plan 10;");
        x.hours(1);
        Due.is("WASTE: it was full as the current came", x.rule(4), 1);
        Due.charges("it leaked then", x, 6);
        x = Due.told("bleed 9 1 3;plan 8;");
        Due.is("it had enough as the current came", x.hours(1), 1);
        Due.charges("it leaked then", x, 0);
        Due.is("STOPS", x.rule(3), 0);
    }

    private static void runsAsked() {
        Due.sentence("15: n of them (0 to 200); what 0, 1, 2, 3. BAD");
        for (int what = 0; what <= 3; what++) {
            int w = what;
            for (int n : new int[] {-1, 201, 202, Edge.LEAST, Edge.MOST}) {
                Edge.stays("runs(" + n + ", " + w + ")", x -> x.runs(n, w), Edge.BAD);
            }
            Edge.stays("runs(0, " + w + ")", x -> x.runs(0, w), w == 3 ? 6 : 0);
        }
        for (int what : new int[] {-1, 4, Edge.LEAST, Edge.MOST}) {
            Edge.stays("runs(1, " + what + ")", x -> x.runs(1, what), Edge.BAD);
        }
    }

    private static void runsOfHours() {
        Due.sentence("15: BY HOURS, n of them (0 to 200)");
        Edge.Made down = Edge.of("pump 9 0 0;" + EIGHTH_DOWN);
        Edge.Made stops = Edge.of("bleed 9 0 0;" + EIGHTH_DOWN);
        Edge.Made up = Edge.of("bleed 9 9 0;plan 9 9 9 9 9 9 9 10;");
        Edge.Made summed = Edge.of("bleed 50 0 0;bleed 60 9 0;plan 9 9 9 9 9 9 9 10;");
        int[][] due = {{0, 0}, {1, 0}, {7, 0}, {8, 1}, {9, 1}, {191, 23}, {192, 24}, {199, 24}, {200, 25}};
        for (int[] d : due) {
            int n = d[0];
            Edge.stays("runs(" + n + ", 0)", down, x -> x.runs(n, 0), d[1]);
            Edge.stays("runs(" + n + ", 1)", stops, x -> x.runs(n, 1), d[1]);
            Edge.stays("runs(" + n + ", 2)", up, x -> x.runs(n, 2), d[1]);
            Edge.stays("runs(" + n + ", 3)", summed, x -> x.runs(n, 3), 9 + 2 * d[1]);
        }
    }

    private static void runsInAll() {
        Due.sentence("15: (0 to 2 beyond 9999 in all, too)");
        CellsInRow x = Due.told("pump 1 0 0;plan 0;");
        for (int i = 0; i < 11; i++) {
            x.hours(100);
        }
        x.hours(10);
        Due.is("DONE", x.rule(5), 9990);
        Due.is("runs(1, 0): to 9999", x.runs(1, 0), 9);
        Due.is("runs(2, 0): beyond", x.runs(2, 0), 18);
        Due.is("runs(200, 0)", x.runs(200, 0), 1800);
        Due.is("DONE stays", x.rule(5), 9990);
        x = late("plain 1 0 0;plan 0;", 98);
        Due.is("STOPS", x.rule(3), 9998);
        Due.is("runs(1, 1): to 9999", x.runs(1, 1), 1);
        Due.is("runs(2, 1): beyond", x.runs(2, 1), 2);
        Due.is("runs(200, 1)", x.runs(200, 1), 200);
        Due.is("STOPS stays", x.rule(3), 9998);
        x = Due.told("bleed 9 9 0;bleed 9 9 0;bleed 9 9 0;bleed 9 9 0;bleed 9 9 0;plan 18;");
        for (int hours : new int[] {100, 100, 22}) {
            x.hours(hours);
        }
        Due.is("WASTE", x.rule(4), 9990);
        Due.is("runs(1, 2): beyond", x.runs(1, 2), 45);
        Due.is("runs(200, 2)", x.runs(200, 2), 9000);
        Due.is("WASTE stays", x.rule(4), 9990);
    }

    private static void beyondTheLastHour() {
        Due.sentence("BY HOURS: as it would be from now on; HOUR n is the one behind n more (0: this one)");
        // 9999 leaves 3 by 7, and 10000 leaves 4
        Edge.Made down = () -> late("pump 9 0 0;plan 9 9 9 8 7 9 9;", 99);
        int[] done = {0, 1, 3, 3, 3, 3, 3, 3, 4, 6};
        for (int n = 0; n < done.length; n++) {
            int hours = n;
            Edge.stays("runs(" + n + ", 0) at 9999", down, x -> x.runs(hours, 0), done[n]);
        }
        Edge.Made up = () -> late("bleed 99 0 0;plan 9 9 9 9 11 9 9;", 99);
        Edge.stays("ahead(0, 1) at 9999", up, x -> x.ahead(0, 1) - x.unit(0, 2), 0);
        Edge.Made stops = () -> late("bleed 9 0 0;plan 9 9 9 9 8 9 9;", 99);
        Edge.stays("when() at 9999", stops, CellsInRow::when, 1);
        Edge.stays("runs(8, 1) at 9999", stops, x -> x.runs(8, 1), 1);
        Edge.stays("runs(9, 1) at 9999", stops, x -> x.runs(9, 1), 2);
        Edge.stays("luck(0, 1, 0) at 9999", stops, x -> x.luck(0, 1, 0), 1);
        Edge.stays("luck(0, 2, 0) at 9999", stops, x -> x.luck(0, 2, 0), 0);
    }

    private static void aheadAsked() {
        Due.sentence("16: CHARGE of a CELL behind n of them (0 to 200). BAD");
        for (int c : new int[] {-1, Edge.CELLS, 5, Edge.LEAST, Edge.MOST}) {
            Edge.stays("ahead(" + c + ", 1)", x -> x.ahead(c, 1), Edge.BAD);
        }
        for (int n : new int[] {-1, 201, 202, Edge.LEAST, Edge.MOST}) {
            Edge.stays("ahead(0, " + n + ")", x -> x.ahead(0, n), Edge.BAD);
            Edge.stays("ahead(2, " + n + ")", x -> x.ahead(2, n), Edge.BAD);
        }
        int[] charges = {3, 3, 0};
        for (int c = 0; c < Edge.CELLS; c++) {
            int i = c;
            Edge.stays("ahead(" + c + ", 0)", x -> x.ahead(i, 0), charges[c]);
        }
        // it stops and leaks in hours 6 and 7
        Edge.stays("ahead(0, 1)", x -> x.ahead(0, 1), 2);
        Edge.stays("ahead(0, 2)", x -> x.ahead(0, 2), 1);
    }

    private static void aheadOfHours() {
        Due.sentence("16: BY HOURS: CHARGE of a CELL behind n of them (0 to 200)");
        Edge.Made made = Edge.of("bleed 99 5 0;bleed 20 9 0;plan 9 9 9 9 9 9 9 10;");
        int[][] due = {{0, 0}, {1, 0}, {7, 0}, {8, 1}, {9, 1}, {191, 23}, {192, 24}, {199, 24}, {200, 25}};
        for (int[] d : due) {
            int n = d[0];
            Edge.stays("ahead(0, " + n + ")", made, x -> x.ahead(0, n), 5 + d[1]);
            Edge.stays("ahead(1, " + n + ")", made, x -> x.ahead(1, n), Math.min(20, 9 + d[1]));
        }
    }

    private static void firstHour() {
        Due.sentence("17: BY HOURS: the first HOUR (0 to 200) in which it STOPS. NONE: in none");
        // 1 down in each third hour
        Edge.stays("in this hour", Edge.of("bleed 99 0 0;plan 8 9 9;"), CellsInRow::when, 0);
        Edge.stays("in the next", Edge.of("bleed 99 0 0;plan 9 8 9;"), CellsInRow::when, 1);
        Edge.stays("in hour 199", Edge.of("bleed 99 66 0;plan 9 8 9;"), CellsInRow::when, 199);
        Edge.stays("in hour 200", Edge.of("bleed 99 66 0;plan 9 9 8;"), CellsInRow::when, 200);
        Edge.stays("in hour 201", Edge.of("bleed 99 67 0;plan 8 9 9;"), CellsInRow::when, Edge.NONE);
        Edge.stays("in hour 202", Edge.of("bleed 99 67 0;plan 9 8 9;"), CellsInRow::when, Edge.NONE);
        CellsInRow x = Due.told("bleed 99 67 0;plan 8 9 9;");
        x.hours(1);
        Due.is("in hour 200 from now on", x.when(), 200);
        x.hours(100);
        Due.is("in hour 100 from now on", x.when(), 100);
        x.hours(100);
        Due.is("now", x.when(), 0);
        x.hours(1);
        Due.is("in the next but one", x.when(), 2);
        Due.is("STOPS", x.rule(3), 1);
    }

    private static void firstHourOfNone() {
        Due.sentence("17: NONE: in none");
        Edge.stays("no cells", Edge.of("plan 0;"), CellsInRow::when, Edge.NONE);
        Edge.stays("no signs", Edge.of("plain 1 0 9;"), CellsInRow::when, Edge.NONE);
        Edge.stays("no current", Edge.of("plain 1 0 9;plan 9;"), CellsInRow::when, Edge.NONE);
        Edge.stays("a pump, down", Edge.of("pump 1 0 9;plan 0;"), CellsInRow::when, Edge.NONE);
        Edge.stays("a bleed, up", Edge.of("bleed 1 1 0;plan 18;"), CellsInRow::when, Edge.NONE);
    }
}
