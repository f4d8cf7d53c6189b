/** Promises 14 to 17: hours. */
public final class HoursTest {
    public static void main(String[] args) {
        hours();
        farHours();
        runs();
        ahead();
        when();
        Due.finish();
    }

    private static void hours() {
        CellsInRow x = Due.told("plain 10 2 0;bleed 6 5 1;plan 13 9 5;");
        Due.is("14 hours(0)", x.hours(0), 0);
        Due.is("14 hour 0", x.hours(1), 0);
        Due.charges("14 up", x, 6, 5);
        Due.is("14 waste", x.rule(4), 3);
        Due.is("14 hour 1", x.hours(1), 0);
        Due.charges("14 none", x, 6, 4);
        Due.is("14 hour 2", x.hours(1), 4);
        Due.charges("14 down", x, 2, 0);
        Due.is("14 the plan comes round", x.hours(1), 0);
        Due.charges("14 up again", x, 6, 3);
        Due.is("14 hour", x.rule(2), 4);
        // it leaks in an hour in which it stops, too
        x.hours(1);
        Due.charges("14 none again", x, 6, 2);
        Due.is("14 stops now", x.rule(7), 1);
        Due.is("14 nothing is done", x.hours(1), 0);
        Due.charges("14 stopped", x, 6, 1);
        Due.is("14 stops", x.rule(3), 1);
        Due.is("14 hours(-1)", x.hours(-1), -1);
        Due.is("14 hours(101)", x.hours(101), -1);
        Due.is("14 hour stays", x.rule(2), 6);
        x = Due.told("plain 10 9 2;bleed 9 1 9;");
        x.hours(3);
        Due.charges("14 leaks without signs", x, 3, 0);
        x.hours(2);
        Due.charges("14 0 at least", x, 0, 0);
        x = Due.told("plan 0;");
        Due.is("14 without cells nothing is done", x.hours(5), 0);
        Due.is("14 nor counted", x.rule(5), 0);
        Due.is("14 nor stopped", x.rule(3), 0);
    }

    private static void farHours() {
        CellsInRow x = Due.told("pump 10 0 0;plan 8;");
        for (int i = 0; i < 99; i++) {
            x.hours(100);
        }
        Due.is("14 hour", x.rule(2), 9900);
        Due.is("14 to 10000", x.hours(100), -3);
        Due.is("14 to 10000, bad", x.hours(101), -1);
        Due.is("14 hour stays", x.rule(2), 9900);
        Due.is("14 to 9999", x.hours(99), 99);
        Due.is("14 hour", x.rule(2), 9999);
        Due.is("14 one more", x.hours(1), -3);
        Due.is("14 none more", x.hours(0), 0);
        Due.is("15 by hours beyond 9999", x.runs(200, 0), 200);
    }

    private static void runs() {
        CellsInRow x = Due.told("plain 10 2 0;bleed 6 5 1;plan 13 9 5;");
        int[][] want = {{0, 0, 0, 7}, {0, 0, 3, 11}, {0, 0, 3, 10}, {4, 0, 3, 2}, {4, 0, 3, 9}, {4, 0, 3, 8}, {4, 1, 3, 7}};
        for (int n = 0; n < want.length; n++) {
            for (int what = 0; what < 4; what++) {
                Due.is("15 runs(" + n + ", " + what + ")", x.runs(n, what), want[n][what]);
            }
        }
        Due.is("15 runs change nothing", x.rule(6) + x.rule(2) + x.rule(4), 7);
        x.hours(3);
        Due.is("15 what was counted is not counted again", x.runs(3, 2), 0);
        Due.is("15 runs(200, 1)", x.runs(200, 1) > 0 ? 1 : 0, 1);
        Due.is("15 runs(201, 0)", x.runs(201, 0), -1);
        Due.is("15 runs(-1, 0)", x.runs(-1, 0), -1);
        Due.is("15 runs(1, 4)", x.runs(1, 4), -1);
        Due.is("15 runs(1, -1)", x.runs(1, -1), -1);
    }

    private static void ahead() {
        CellsInRow x = Due.told("plain 10 2 0;bleed 6 5 1;plan 13 9 5;");
        int[][] want = {{2, 5}, {6, 5}, {6, 4}, {2, 0}, {6, 3}, {6, 2}, {6, 1}};
        for (int n = 0; n < want.length; n++) {
            Due.is("16 ahead(0, " + n + ")", x.ahead(0, n), want[n][0]);
            Due.is("16 ahead(1, " + n + ")", x.ahead(1, n), want[n][1]);
        }
        Due.charges("16 nothing is changed", x, 2, 5);
        Due.is("16 ahead(0, 200)", Due.told("plain 99 0 0;").ahead(0, 200), 0);
        Due.is("16 ahead(0, 201)", x.ahead(0, 201), -1);
        Due.is("16 ahead(0, -1)", x.ahead(0, -1), -1);
        Due.is("16 ahead(2, 0)", x.ahead(2, 0), -1);
        Due.is("16 ahead(-1, 0)", x.ahead(-1, 0), -1);
    }

    private static void when() {
        Due.is("17 now", Due.told("plain 9 9 0;plan 10;").when(), 0);
        Due.is("17 in the fifth", Due.told("plain 10 2 0;bleed 6 5 1;plan 13 9 5;").when(), 5);
        Due.is("17 never", Due.told("bleed 9 9 0;plan 18;").when(), -4);
        CellsInRow x = Due.told("plain 60 0 0;plan 9 9 9 9 10 9 9 9 9 9 9 9 9 9;");
        x.alter(0, 1, 14);
        // hour 4 + 14 k brings one more; the 15th of them, hour 200, is one too many
        Due.is("17 in hour 200", x.when(), 200);
        x.alter(0, 1, 15);
        Due.is("17 behind hour 200", x.when(), -4);
        Due.is("17 nothing is changed", x.rule(2) + x.rule(3) + x.rule(6), 0);
        x.alter(0, 1, 14);
        x.hours(3);
        Due.is("17 from now on", x.when(), 197);
    }
}
