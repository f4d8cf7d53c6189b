/** Promises 9 to 13: what is changed. */
public final class ChangeTest {
    public static void main(String[] args) {
        altering();
        signs();
        sendingUp();
        sendingDown();
        stopsByKind();
        bounds();
        Due.finish();
    }

    private static void altering() {
        CellsInRow x = Due.told("plain 10 4 2;pump 5 5 0;");
        Due.is("9 kind", x.alter(0, 0, 3), 0);
        Due.is("9 kind again", x.alter(0, 0, 1), 3);
        Due.is("9 room", x.alter(0, 1, 4), 10);
        Due.is("9 room less than charge", x.alter(0, 1, 3), -2);
        Due.is("9 charge more than room", x.alter(0, 2, 5), -2);
        Due.is("9 charge more than room, 99", x.alter(0, 2, 99), -2);
        Due.is("9 charge beyond every room", x.alter(0, 2, 100), -1);
        Due.is("9 charge", x.alter(0, 2, 0), 4);
        Due.is("9 room 99", x.alter(0, 1, 99), 4);
        Due.is("9 charge 99", x.alter(0, 2, 99), 0);
        Due.is("9 leak", x.alter(0, 3, 9), 2);
        Due.is("9 unit", x.unit(0, 0) * 1000000 + x.unit(0, 1) * 10000 + x.unit(0, 2) * 100 + x.unit(0, 3), 1999909);
        int[][] bad = {{0, 0, 4}, {0, 0, -1}, {0, 1, 0}, {0, 1, 100}, {0, 2, -1}, {0, 3, 10}, {0, 3, -1},
            {0, 4, 1}, {0, -1, 1}, {2, 0, 1}, {-1, 0, 1}};
        for (int[] b : bad) {
            Due.is("9 alter(" + b[0] + ", " + b[1] + ", " + b[2] + ")", x.alter(b[0], b[1], b[2]), -1);
        }
        Due.is("9 the other stays", x.unit(1, 2), 5);
        Due.is("9 kind 0", x.alter(1, 0, 0), 3);
        Due.is("9 charge 0", x.alter(1, 2, 0), 5);
        Due.is("9 room 1", x.alter(1, 1, 1), 5);
        Due.is("9 leak 0", x.alter(0, 3, 0), 9);
    }

    private static void signs() {
        CellsInRow x = new CellsInRow();
        Due.is("10 set without signs", x.set(0, 1), -1);
        Due.is("12 cut(0) without signs", x.cut(0), 0);
        Due.is("11 add(-1)", x.add(-1), -1);
        Due.is("11 add(19)", x.add(19), -1);
        for (int i = 0; i < 16; i++) {
            Due.is("11 add", x.add(i), i + 1);
        }
        Due.is("11 add the 17th", x.add(3), -3);
        Due.is("11 add a bad 17th", x.add(19), -1);
        Due.is("8 sign(15)", x.sign(15), 15);
        Due.is("10 set(15, 18)", x.set(15, 18), 15);
        Due.is("10 set(15, 0)", x.set(15, 0), 18);
        Due.is("10 set(16, 0)", x.set(16, 0), -1);
        Due.is("10 set(-1, 0)", x.set(-1, 0), -1);
        Due.is("10 set(0, 19)", x.set(0, 19), -1);
        Due.is("10 set(0, -1)", x.set(0, -1), -1);
        Due.is("12 cut(17)", x.cut(17), -1);
        Due.is("12 cut(-1)", x.cut(-1), -1);
        Due.is("12 cut(16)", x.cut(16), 16);
        Due.is("12 cut(2)", x.cut(2), 16);
        Due.is("8 sign(2) is gone", x.sign(2), -1);
        Due.is("8 sign(1) stays", x.sign(1), 1);
        Due.is("11 add behind", x.add(7), 3);
        Due.is("8 sign(2)", x.sign(2), 7);
    }

    private static CellsInRow sent(String text, int v, int stops, int done, int waste, int... charges) {
        CellsInRow x = Due.told(text);
        String call = "13 send(" + v + ") to " + text;
        Due.is(call, x.send(v), stops);
        Due.is(call + ": hour", x.rule(2), 0);
        Due.is(call + ": stops", x.rule(3), stops);
        Due.is(call + ": done", x.rule(5), done);
        Due.is(call + ": waste", x.rule(4), waste);
        Due.charges(call, x, charges);
        return x;
    }

    private static void sendingUp() {
        sent("plain 9 2 5;", 14, 0, 0, 0, 7);
        sent("plain 9 4 5;", 14, 0, 0, 0, 9);
        sent("plain 9 5 5;", 14, 1, 0, 0, 5);
        sent("bleed 9 5 5;", 14, 0, 0, 1, 9);
        sent("bleed 9 9 5;bleed 9 0 0;", 14, 0, 0, 5, 9, 5);
        // the poorest has what has room in it; the one ahead fills a plain one
        sent("share 6 4 0;plain 9 4 0;", 14, 0, 0, 3, 6, 9);
        sent("share 3 3 0;plain 9 2 0;plain 9 4 0;", 14, 0, 0, 3, 3, 9, 9);
        sent("share 3 1 0;bleed 2 2 0;", 14, 0, 0, 3 + 5, 3, 2);
        // poorest is it itself: it has no room
        sent("share 3 1 0;plain 20 9 0;", 14, 0, 0, 3, 3, 14);
        // of several the first
        sent("share 9 9 0;plain 20 4 0;plain 20 4 0;", 11, 0, 0, 0, 9, 8, 6);
        sent("plain 20 4 0;plain 20 6 0;share 9 9 0;", 11, 0, 0, 0, 8, 8, 9);
        sent("pump 9 9 0;plain 20 4 0;plain 20 5 0;", 11, 0, 0, 0, 9, 8, 7);
        // a rest of one is shared as well
        sent("share 9 8 0;plain 20 4 0;", 11, 0, 0, 0, 9, 7);
        // poorest by charge, not by room left
        sent("pump 9 9 0;bleed 4 4 0;plain 30 5 0;", 10, 0, 0, 2, 9, 4, 6);
        sent("plain 9 1 0;plain 9 9 0;", 10, 1, 0, 0, 1, 9);
        sent("", 18, 0, 0, 0);
    }

    private static void sendingDown() {
        sent("plain 9 5 5;", 4, 0, 5, 0, 0);
        sent("plain 9 5 5;bleed 9 9 0;share 9 9 0;", 4, 0, 5, 0, 0, 4, 4);
        sent("pump 9 5 0;", 0, 0, 9, 0, 0);
        sent("pump 9 0 0;", 0, 0, 9, 0, 0);
        // the richest gives what it has, it is then emptied by the one ahead
        sent("pump 9 1 0;plain 9 5 0;", 4, 0, 5, 0, 0, 0);
        sent("pump 9 0 0;plain 20 9 0;plain 20 9 0;", 6, 0, 3, 0, 0, 3, 6);
        sent("plain 20 6 0;plain 20 8 0;pump 9 0 0;", 6, 0, 3, 0, 3, 2, 0);
        sent("pump 9 0 0;plain 20 8 0;bleed 20 9 0;", 6, 0, 3, 0, 0, 5, 3);
        sent("pump 9 2 0;plain 20 15 0;", 4, 0, 5, 0, 0, 7);
        sent("pump 9 2 0;plain 20 15 0;", 6, 0, 3, 0, 0, 11);
        // a plain one that was emptied by the one ahead draws from none
        sent("pump 9 0 0;plain 20 8 0;plain 20 6 0;", 4, 0, 5, 0, 0, 0, 1);
        sent("plain 30 9 0;plain 30 9 0;pump 9 0 0;plain 30 9 0;plain 30 20 0;", 0, 0, 9, 0, 0, 0, 0, 0, 2);
        sent("", 0, 0, 0, 0);
        sent("plain 9 5 3;", 9, 0, 0, 0, 5);
    }

    private static void stopsByKind() {
        String[] kinds = {"plain", "bleed", "share", "pump"};
        int[] full = {1, 0, 0, 0};
        int[] empty = {1, 1, 1, 0};
        for (int k = 0; k < 4; k++) {
            Due.is("13 full " + kinds[k], Due.told(kinds[k] + " 9 9 0;").send(10), full[k]);
            Due.is("13 empty " + kinds[k], Due.told(kinds[k] + " 9 0 0;").send(8), empty[k]);
            Due.is("13 none for " + kinds[k], Due.told(kinds[k] + " 9 0 0;").send(9), 0);
        }
        CellsInRow x = Due.told("pump 9 0 0;plain 9 2 0;");
        Due.is("13 any cell stops it", x.send(6), 1);
        Due.is("13 stops", x.rule(3), 1);
        Due.is("13 nothing is done", x.rule(5), 0);
        Due.is("13 send(19)", x.send(19), -1);
        Due.is("13 send(-1)", x.send(-1), -1);
    }

    private static void bounds() {
        CellsInRow x = Due.told("bleed 1 1 0;bleed 1 1 0;bleed 1 1 0;bleed 1 1 0;bleed 1 1 0;plan 18;");
        for (int i = 0; i < 222; i++) {
            x.send(18);
        }
        Due.is("waste", x.rule(4), 9990);
        x.send(18);
        Due.is("waste, 9999 at most", x.rule(4), 9999);
        x.send(18);
        Due.is("waste, 9999 at most, again", x.rule(4), 9999);
        Due.is("15 runs are counted beyond", x.runs(200, 2), 9000);
        x = Due.told("pump 1 0 0;plan 0;");
        for (int i = 0; i < 11; i++) {
            Due.is("done in 100 hours", x.hours(100), 900);
        }
        x.hours(10);
        Due.is("done", x.rule(5), 9990);
        Due.is("14 done in hours that come beyond 9999 in all", x.hours(2), 18);
        Due.is("done, 9999 at most", x.rule(5), 9999);
        x.send(0);
        Due.is("done, 9999 at most, by send, too", x.rule(5), 9999);
        Due.is("14 done in hours beyond 9999 in all", x.hours(100), 900);
        Due.is("done, 9999 at most, again", x.rule(5), 9999);
        x.keep(0);
        x.back(0);
        Due.is("32 done, of an image", x.rule(5), 9999);
        Due.is("14 nothing is done in no hours", x.hours(0), 0);
        x.alter(0, 0, 0);
        Due.is("14 nothing is done where it stops", x.hours(1), 0);
        x.alter(0, 0, 3);
        Due.is("15 runs are counted beyond", x.runs(200, 0), 1800);
        x = Due.told("plain 1 0 0;plan 0;");
        for (int i = 0; i < 99; i++) {
            x.hours(100);
        }
        x.hours(99);
        Due.is("stops", x.rule(3), 9999);
        x.send(0);
        Due.is("stops, 9999 at most", x.rule(3), 9999);
        Due.is("15 runs are counted beyond", x.runs(200, 1), 200);
    }
}
