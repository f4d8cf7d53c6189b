/** Promises 18 to 22: what is best. */
public final class BestTest {
    public static void main(String[] args) {
        kinds();
        begins();
        needs();
        swaps();
        bridges();
        Due.finish();
    }

    private static void kinds() {
        CellsInRow x = Due.told("plain 10 2 0;bleed 6 5 1;plan 13 9 5;");
        Due.is("18 kind", x.kind(1, 6, 0), 3);
        Due.is("18 how much", x.kind(1, 6, 1), 8);
        Due.is("18 of several the first", x.kind(0, 3, 0), 0);
        Due.is("18 of no hours", x.kind(1, 0, 0), 0);
        Due.is("18 of no hours, how much", x.kind(1, 0, 1), 0);
        // only a bleed, which does not stop the first hour, has enough for both hours down
        CellsInRow y = Due.told("plain 4 2 0;plan 12 5 9;");
        Due.is("18 bleed", y.kind(0, 2, 0), 1);
        Due.is("18 bleed, how much", y.kind(0, 2, 1), 4);
        Due.is("18 nothing is changed", y.unit(0, 0), 0);
        int[][] bad = {{2, 1, 0}, {-1, 1, 0}, {0, 201, 0}, {0, -1, 0}, {0, 1, 2}, {0, 1, -1}};
        for (int[] b : bad) {
            Due.is("18 kind(" + b[0] + ", " + b[1] + ", " + b[2] + ")", x.kind(b[0], b[1], b[2]), -1);
        }
        Due.is("18 far", Due.told("pump 9 0 0;plan 0;").kind(0, 200, 1), 1800);
    }

    private static void begins() {
        CellsInRow x = Due.told("plain 9 0 0;plan 5 9 6;");
        Due.is("19 begin", x.begin(0, 3, 0), 7);
        Due.is("19 how much", x.begin(0, 3, 1), 7);
        Due.is("19 one hour", x.begin(0, 1, 0), 4);
        Due.is("19 of several the least", x.begin(0, 0, 0), 0);
        Due.is("19 all its room", Due.told("bleed 9 3 0;plan 0;").begin(0, 1, 0), 9);
        Due.is("19 less is better", Due.told("plain 9 9 0;plan 18 0;").begin(0, 2, 0), 0);
        Due.is("19 nothing is changed", x.unit(0, 2), 0);
        int[][] bad = {{1, 1, 0}, {-1, 1, 0}, {0, 201, 0}, {0, -1, 0}, {0, 1, 2}, {0, 1, -1}};
        for (int[] b : bad) {
            Due.is("19 begin(" + b[0] + ", " + b[1] + ", " + b[2] + ")", x.begin(b[0], b[1], b[2]), -1);
        }
    }

    private static void needs() {
        CellsInRow x = Due.told("plain 10 2 0;bleed 6 5 1;plan 13 9 5;");
        Due.is("20 need", x.need(0, 5), 6);
        Due.is("20 not less than its charge", x.need(1, 5), 5 + 1);
        Due.is("20 of no hours", x.need(1, 0), 5);
        Due.is("20 by none", x.need(0, 6), -4);
        Due.is("20 1 at least", Due.told("bleed 9 0 0;plan 18;").need(0, 9), 1);
        Due.is("20 99", Due.told("plain 9 0 0;plan 18;").need(0, 11), 99);
        Due.is("20 more than 99", Due.told("plain 9 0 0;plan 18;").need(0, 12), -4);
        Due.is("20 nothing is changed", x.unit(0, 1), 10);
        int[][] bad = {{2, 1}, {-1, 1}, {0, 201}, {0, -1}};
        for (int[] b : bad) {
            Due.is("20 need(" + b[0] + ", " + b[1] + ")", x.need(b[0], b[1]), -1);
        }
    }

    private static void swaps() {
        CellsInRow x = Due.told("plain 9 0 0;plan 4 14;");
        Due.is("21 swap", x.swap(2, 0), 1);
        Due.is("21 how much", x.swap(2, 1), 5);
        Due.is("21 nothing is changed", x.sign(0), 4);
        Due.is("21 not more", Due.told("plain 9 5 0;plan 4 14;").swap(2, 0), -4);
        // 0 and 2, 0 and 3, or 1 and 2, 1 and 3 all bring up ahead of down: the least is told
        Due.is("21 of several the least", Due.told("plain 9 0 0;plan 4 9 14 14;").swap(4, 0), 2);
        Due.is("21 the greater", Due.told("plain 9 5 0;plan 4 4 9 9 9 9 9 9 9 9 9 9 9 9 9 14;").swap(16, 0), 115);
        Due.is("21 of no hours", x.swap(0, 0), -4);
        Due.is("21 one sign", Due.told("plain 9 5 0;plan 4;").swap(9, 1), -4);
        int[][] bad = {{201, 0}, {-1, 0}, {1, 2}, {1, -1}};
        for (int[] b : bad) {
            Due.is("21 swap(" + b[0] + ", " + b[1] + ")", x.swap(b[0], b[1]), -1);
        }
    }

    private static void bridges() {
        CellsInRow x = Due.told("plain 10 2 0;bleed 6 5 1;plan 13 9 5;");
        Due.is("22 bridge", x.bridge(6, 0), 1);
        Due.is("22 how much", x.bridge(6, 1), 8);
        Due.is("22 none is better", x.bridge(3, 0), -4);
        // a bridged cell is a cell still
        Due.is("22 the one cell", Due.told("plain 9 0 0;plan 4;").bridge(3, 0), 0);
        Due.is("22 the one cell, how much", Due.told("plain 9 0 0;plan 4;").bridge(3, 1), 15);
        // with cell 0 bridged, cell 2 is the poorest for the pump and fills, so that hour 1 goes
        CellsInRow y = Due.told("plain 9 0 0;pump 9 9 0;plain 20 1 0;plan 13 0;");
        Due.is("22 not the poorest", y.bridge(2, 0), 0);
        Due.is("22 not the poorest, how much", y.bridge(2, 1), 9);
        // with cell 0 bridged, the pump empties cell 1, so that hour 1 stops; with the pump bridged, it goes
        CellsInRow z = Due.told("plain 30 20 0;plain 30 18 0;pump 9 0 0;plan 0;");
        Due.is("22 not the richest", z.bridge(2, 0), 2);
        Due.is("22 not the richest, how much", z.bridge(2, 1), 18);
        // either of the two full ones stops it: bridging one is not enough
        Due.is("22 two that stop it", Due.told("plain 9 0 0;plain 9 0 0;plan 4;").bridge(2, 0), -4);
        // bridging either leaves enough for the pump: the first is told
        Due.is("22 of several the first", Due.told("plain 9 3 0;pump 9 0 0;plan 4;").bridge(1, 0), 0);
        Due.is("22 nothing is changed", x.rule(6), 7);
        Due.is("22 no cells", Due.told("plan 0;").bridge(5, 0), -4);
        int[][] bad = {{201, 0}, {-1, 0}, {1, 2}, {1, -1}};
        for (int[] b : bad) {
            Due.is("22 bridge(" + b[0] + ", " + b[1] + ")", x.bridge(b[0], b[1]), -1);
        }
    }
}
