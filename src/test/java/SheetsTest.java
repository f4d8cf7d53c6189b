/** Promises 31 to 37: images, sheets, counts. */
public final class SheetsTest {
    public static void main(String[] args) {
        images();
        sheets();
        lays();
        reads();
        readsOfNothing();
        readsTorn();
        counts();
        Due.finish();
    }

    private static void images() {
        CellsInRow x = Due.told("bleed 10 9 1;plan 14 2 9;");
        Due.is("32 back to none", x.back(0), -2);
        Due.is("32 back(2)", x.back(2), -1);
        Due.is("32 back(-1)", x.back(-1), -1);
        Due.is("31 keep(2)", x.keep(2), -1);
        Due.is("31 keep(-1)", x.keep(-1), -1);
        x.hours(5);
        x.see(0, 0, 1);
        int[] was = state(x);
        Due.is("31 keep(0)", x.keep(0), 0);
        x.alter(0, 0, 3);
        x.alter(0, 2, 0);
        x.alter(0, 1, 8);
        x.alter(0, 3, 7);
        x.set(0, 18);
        x.set(1, 17);
        x.cut(2);
        x.hours(7);
        x.send(0);
        x.send(18);
        x.forget(0);
        x.see(3, 0, 7);
        x.see(3, 0, 8);
        Due.is("31 keep(1)", x.keep(1), 0);
        int[] then = state(x);
        Due.that("31 all is changed", was[5] != then[5] && was[4] != then[4] && was[3] == 1);
        Due.is("32 back(0)", x.back(0), 5);
        Due.that("32 all is as it was", java.util.Arrays.equals(was, state(x)));
        Due.is("27 what was seen, too", x.kinds(0), 0);
        Due.is("32 back(1)", x.back(1), 12);
        Due.that("32 all is as it was then", java.util.Arrays.equals(then, state(x)));
        Due.is("31 keep(0) again", x.keep(0), 1);
        Due.is("32 back(0) is the later one", x.back(0), 12);
        Due.that("32 the later one", java.util.Arrays.equals(then, state(x)));
        x.hours(1);
        Due.is("32 an image stays", x.back(0), 12);
        CellsInRow y = Due.told("plain 20 10 3;plain 20 10 5;");
        y.see(1, 1, 6);
        y.keep(0);
        y.forget(0);
        y.see(2, 0, 4);
        y.keep(1);
        Due.is("32 back(0)", y.back(0), 0);
        Due.is("28 as seen then", y.leaks(1), 16);
        Due.is("32 back(1)", y.back(1), 0);
        Due.is("28 as seen later", y.leaks(0), 8);
    }

    private static int[] state(CellsInRow x) {
        return new int[] {x.rule(0), x.rule(1), x.rule(2), x.rule(3), x.rule(4), x.rule(5), x.rule(6),
            x.unit(0, 0), x.unit(0, 1), x.unit(0, 2), x.unit(0, 3), x.sign(0), x.sign(1), x.sign(2), x.count(0)};
    }

    private static void sheets() {
        CellsInRow x = new CellsInRow();
        Due.is("33 sheet(0, 0, 0)", x.sheet(0, 0, 0), 1);
        Due.is("37 no places", x.count(3), 0);
        Due.is("33 sheet(0, 2, 40)", x.sheet(0, 2, 40), 1);
        Due.is("37 places", x.count(3), 40);
        Due.is("33 sheet(0, 2, 41)", x.sheet(0, 2, 41), -1);
        Due.is("33 sheet(0, 2, -1)", x.sheet(0, 2, -1), -14);
        Due.is("33 sheet(0, 2, MIN)", x.sheet(0, 2, Integer.MIN_VALUE), -14);
        Due.is("33 sheet(4, 2, -1)", x.sheet(4, 2, -1), -1);
        Due.is("33 sheet(-1, 2, 1)", x.sheet(-1, 2, 1), -1);
        Due.is("33 sheet(0, 3, -1)", x.sheet(0, 3, -1), -1);
        Due.is("33 sheet(0, -1, 1)", x.sheet(0, -1, 1), -1);
        Due.is("33 the sheet stays", x.count(3), 40);
        Due.is("33 sheet(3, 1, 1)", x.sheet(3, 1, 1), 1);
    }

    private static void lays() {
        CellsInRow x = Due.told("plan 0 1;");
        Due.is("34 lay on nothing", x.lay(3, 0, 1), -11);
        x.sheet(3, 0, 2);
        Due.is("34 lay(3, 2, 1)", x.lay(3, 2, 1), -12);
        Due.is("34 lay(3, -1, 1)", x.lay(3, -1, 1), -12);
        Due.is("34 lay(4, 0, 1)", x.lay(4, 0, 1), -1);
        Due.is("34 lay(-1, 0, 1)", x.lay(-1, 0, 1), -1);
        int[] laid = {0x101, 0x10001, 1};
        for (int lane = 0; lane < 3; lane++) {
            x.set(1, 1);
            x.sheet(3, lane, 2);
            Due.is("34 lay", x.lay(3, 0, laid[lane]), 1);
            Due.is("34 lay", x.lay(3, 1, lane == 2 ? 18 : laid[lane] + 17), 1);
            Due.is("35 the lowest bits", x.read(3, lane, 0, 1), 1);
            Due.is("35 sign", x.sign(1), 18);
        }
        x.sheet(3, 0, 2);
        x.lay(3, 0, 255);
        Due.is("34 255 is -1 as a byte", x.read(3, 0, 0, 1), -20);
        x.sheet(3, 1, 2);
        x.lay(3, 1, 0x101);
        Due.is("34 257 is 257 as a short", x.read(3, 1, 0, 1), -20);
        x.sheet(3, 2, 2);
        x.lay(3, 1, 0x10001);
        Due.is("34 65537 is 65537 as an int", x.read(3, 2, 0, 1), -20);
        Due.is("33 a new row is of zeros", x.sheet(3, 2, 2), 1);
        Due.is("33 a new row is of zeros", x.read(3, 2, 0, 1), 1);
    }

    private static CellsInRow laid(int lane, int... places) {
        CellsInRow x = Due.told("plan 5 6 7;");
        x.sheet(2, lane, places.length);
        for (int i = 0; i < places.length; i++) {
            x.lay(2, i, places[i]);
        }
        return x;
    }

    private static void signsAre(String when, CellsInRow x, int a, int b, int c) {
        Due.is(when, x.sign(0) * 10000 + x.sign(1) * 100 + x.sign(2), a * 10000 + b * 100 + c);
    }

    private static void reads() {
        CellsInRow x = laid(1, 0, 10, 1, 11, 0, 12);
        Due.is("35 read none", x.read(2, 1, 0, 0), 0);
        Due.is("35 read", x.read(2, 1, 0, 3), 3);
        signsAre("35 one behind another", x, 12, 11, 7);
        Due.is("36 torn", x.torn(), 0);
        x = laid(1, 9, 9, 2, 0, 19);
        Due.is("35 from place 2 on", x.read(2, 1, 2, 1), 1);
        signsAre("35 from place 2 on", x, 5, 6, 0);
        Due.is("35 from place 1 on: no such sign", x.read(2, 1, 1, 1), -20);
        // the second is refused: the first does not come either
        x = laid(2, 0, 1, 3, 1, 2, 2);
        Due.is("35 no such sign", x.read(2, 2, 0, 3), -21);
        signsAre("35 then none came", x, 5, 6, 7);
        x = laid(2, 0, 1, 1, 2, 2, 19);
        Due.is("35 no such value", x.read(2, 2, 0, 3), -22);
        signsAre("35 then none came", x, 5, 6, 7);
        int[][] bad = {{4, 0, 0, 1}, {-1, 0, 0, 1}, {2, 3, 0, 1}, {2, -1, 0, 1}, {2, 2, 0, -1}, {2, 2, 0, 21}, {0, 3, 0, 0}};
        for (int[] b : bad) {
            Due.is("35 read(" + b[0] + ", " + b[1] + ", " + b[2] + ", " + b[3] + ")", x.read(b[0], b[1], b[2], b[3]), -1);
        }
        x = Due.told("plan 5;");
        x.sheet(0, 0, 40);
        Due.is("35 read 20", x.read(0, 0, 0, 20), 20);
        Due.is("36 torn", x.torn(), 0);
    }

    private static void readsOfNothing() {
        CellsInRow x = laid(0, 0, 10);
        Due.is("35 of nothing", x.read(1, 0, 0, 1), 0);
        Due.is("36 NULL", x.torn(), 1);
        Due.is("35 of nothing, beyond", x.read(1, 2, 99, 1), 0);
        Due.is("36 NULL", x.torn(), 1);
        // what is not there is found only when a place of it is read
        Due.is("35 nothing read of nothing", x.read(1, 0, 0, 0), 0);
        Due.is("36 none", x.torn(), 0);
        Due.is("35 another lane", x.read(2, 1, 0, 1), 0);
        Due.is("36 CAST", x.torn(), 3);
        signsAre("35 none came", x, 5, 6, 7);
        Due.is("35 of the lane", x.read(2, 0, 0, 1), 1);
        Due.is("36 none", x.torn(), 0);
        Due.is("35 another lane, beyond", x.read(2, 2, -9, 1), 0);
        Due.is("36 CAST is found ahead of INDEX", x.torn(), 3);
        // with none to be read it is not taken as of a lane at all
        for (int lane = 0; lane < 3; lane++) {
            for (int f : new int[] {0, 2, -1, Integer.MAX_VALUE}) {
                x.read(2, 1, 0, 1);
                Due.is("36 CAST ahead", x.torn(), 3);
                Due.is("35 none read as of lane " + lane + " from " + f + " on", x.read(2, lane, f, 0), 0);
                Due.is("36 none as of lane " + lane + " from " + f + " on", x.torn(), 0);
            }
        }
        x.sheet(1, 1, 0);
        Due.is("35 none read of no places, of another lane", x.read(1, 0, 0, 0), 0);
        Due.is("36 none", x.torn(), 0);
        Due.is("35 one read of no places, of another lane", x.read(1, 0, 0, 1), 0);
        Due.is("36 CAST", x.torn(), 3);
    }

    private static void readsTorn() {
        CellsInRow x = laid(0, 0, 10, 1, 11, 2);
        Due.is("35 two are whole", x.read(2, 0, 0, 3), 2);
        Due.is("36 INDEX", x.torn(), 2);
        signsAre("35 two came", x, 10, 11, 7);
        Due.is("35 only one is whole", x.read(2, 0, 2, 20), 1);
        Due.is("36 INDEX", x.torn(), 2);
        int[] beyond = {5, 4, -1, -2, 6, Integer.MAX_VALUE, Integer.MAX_VALUE - 1, Integer.MIN_VALUE};
        for (int f : beyond) {
            x.read(2, 0, 0, 0);
            Due.is("36 none", x.torn(), 0);
            Due.is("35 from " + f + " on", x.read(2, 0, f, 2), 0);
            Due.is("36 INDEX from " + f + " on", x.torn(), 2);
            Due.is("35 none from " + f + " on", x.read(2, 0, f, 0), 0);
            Due.is("36 none from " + f + " on", x.torn(), 0);
        }
        // what is refused comes to no end: torn() stays
        x.read(2, 1, 0, 1);
        x.lay(2, 2, 3);
        Due.is("35 refused ahead of the fault", x.read(2, 0, 0, 3), -21);
        Due.is("36 CAST stays", x.torn(), 3);
        Due.is("35 bad", x.read(2, 0, 0, 21), -1);
        Due.is("36 CAST stays", x.torn(), 3);
        // the third is not whole: what it would set is never asked
        x = laid(0, 0, 10, 1, 11, 99);
        Due.is("35 the third is not whole", x.read(2, 0, 0, 3), 2);
        Due.is("36 INDEX", x.torn(), 2);
        x.sheet(2, 0, 0);
        Due.is("35 no places", x.read(2, 0, 0, 1), 0);
        Due.is("36 INDEX", x.torn(), 2);
    }

    private static void counts() {
        CellsInRow x = Due.told("plain 10 2 0;bleed 99 5 1;plan 13 9 5 0 18;");
        x.see(1, 1, 5);
        x.see(1, 1, 5);
        x.feed(1);
        x.feed(2);
        x.feed(3);
        int[] want = {2, 0, 3, -4, 109, 45};
        for (int what = 0; what < want.length; what++) {
            Due.is("37 count(" + what + ")", x.count(what), want[what]);
        }
        x.keep(1);
        Due.is("37 one image", x.count(1), 1);
        x.keep(0);
        Due.is("37 two images", x.count(1), 2);
        x.sheet(1, 0, 9);
        Due.is("37 sheet 1 is not sheet 0", x.count(3), -4);
        Due.is("37 count(6)", x.count(6), -1);
        Due.is("37 count(-1)", x.count(-1), -1);
    }
}
