/** The edges of promises 9 to 13, of what STOPS, TAKES and GIVES, and of what is counted, a sentence at a time. */
public final class ChangeEdgesTest {
    private static final String[] KINDS = {"plain", "bleed", "share", "pump"};
    private static final String SIXTEEN = "plan 0 1 2 3 4 5 6 7 8 9 10 11 12 13 14 15;";

    public static void main(String[] args) {
        alteredCells();
        alteredKinds();
        alteredRooms();
        roomsAndCharges();
        alteredCharges();
        alteredLeaks();
        firstThatFits();
        sets();
        adds();
        cuts();
        sends();
        currents();
        oneCell();
        anyCell();
        filledAhead();
        poorest();
        poorestOfSeveral();
        emptiedAhead();
        richest();
        richestOfSeveral();
        noCells();
        stopsAtMost();
        wasteAtMost();
        doneAtMost();
        Due.finish();
    }

    private static void altered(int c, int what, int v, int was) {
        String call = "alter(" + c + ", " + what + ", " + v + ")";
        CellsInRow x = Edge.rich();
        Due.is(call, x.alter(c, what, v), was);
        Due.is(call + ": unit", x.unit(c, what), v);
        Edge.undone(call, Edge::rich, y -> y.alter(c, what, v), was, y -> y.alter(c, what, was));
    }

    private static void refused(int c, int what, int v, int answer) {
        Edge.stays("alter(" + c + ", " + what + ", " + v + ")", x -> x.alter(c, what, v), answer);
    }

    private static void alteredCells() {
        Due.sentence("9: KIND, ROOM, CHARGE, LEAK (what 0 to 3) of a CELL becomes v: what it was. BAD");
        for (int c : new int[] {-1, Edge.CELLS, 4, 5, Edge.LEAST, Edge.MOST}) {
            for (int what = 0; what <= 3; what++) {
                refused(c, what, 1, Edge.BAD);
            }
        }
        for (int what : new int[] {-1, 4, Edge.LEAST, Edge.MOST}) {
            refused(0, what, 1, Edge.BAD);
            refused(2, what, 0, Edge.BAD);
        }
        altered(0, 0, 2, 0);
        altered(2, 0, 2, 3);
        altered(2, 3, 3, 2);
    }

    private static void alteredKinds() {
        Due.sentence("a KIND (0 plain, 1 bleed, 2 share, 3 pump). BAD");
        for (int v : new int[] {-1, 4, Edge.LEAST, Edge.MOST}) {
            refused(0, 0, v, Edge.BAD);
        }
        for (int v = 0; v <= 3; v++) {
            altered(0, 0, v, 0);
        }
    }

    private static void alteredRooms() {
        Due.sentence("a ROOM (1 to 99). BAD");
        for (int v : new int[] {-1, 0, 100, 101, Edge.LEAST, Edge.MOST}) {
            // the pump has no CHARGE, so that 0 is not less than that
            refused(2, 1, v, Edge.BAD);
        }
        for (int v : new int[] {1, 2, 98, 99}) {
            altered(2, 1, v, 30);
        }
    }

    private static void roomsAndCharges() {
        Due.sentence("9: STATE: a ROOM less than CHARGE");
        refused(0, 1, 1, Edge.STATE);
        refused(0, 1, 2, Edge.STATE);
        altered(0, 1, 3, 20);
        altered(0, 1, 4, 20);
        Edge.Made full = Edge.of("bleed 99 99 0;");
        Edge.stays("room 98 of charge 99", full, x -> x.alter(0, 1, 98), Edge.STATE);
        Edge.stays("room 99 of charge 99", full, x -> x.alter(0, 1, 99), 99);
        Edge.stays("room 100 of charge 99", full, x -> x.alter(0, 1, 100), Edge.BAD);
    }

    private static void alteredCharges() {
        Due.sentence("a CHARGE (0 to ROOM). 9: STATE: a CHARGE more than ROOM");
        refused(0, 2, -1, Edge.BAD);
        refused(0, 2, Edge.LEAST, Edge.BAD);
        for (int v : new int[] {0, 1, 19, 20}) {
            altered(0, 2, v, 3);
        }
        refused(0, 2, 21, Edge.STATE);
        refused(0, 2, 98, Edge.STATE);
        refused(0, 2, 99, Edge.STATE);
        // no ROOM is so large that this could be a CHARGE
        refused(0, 2, 100, Edge.BAD);
        refused(0, 2, Edge.MOST, Edge.BAD);
        Edge.Made widest = Edge.of("bleed 99 50 0;");
        Edge.undone("charge 99 of room 99", widest, x -> x.alter(0, 2, 99), 50, x -> x.alter(0, 2, 50));
        Edge.stays("charge 100 of room 99", widest, x -> x.alter(0, 2, 100), Edge.BAD);
        Edge.Made least = Edge.of("bleed 1 0 0;");
        Edge.undone("charge 1 of room 1", least, x -> x.alter(0, 2, 1), 0, x -> x.alter(0, 2, 0));
        Edge.stays("charge 2 of room 1", least, x -> x.alter(0, 2, 2), Edge.STATE);
    }

    private static void alteredLeaks() {
        Due.sentence("a LEAK (0 to 9). BAD");
        for (int v : new int[] {-1, 10, 11, Edge.LEAST, Edge.MOST}) {
            refused(0, 3, v, Edge.BAD);
        }
        for (int v : new int[] {0, 1, 8, 9}) {
            altered(0, 3, v, 1);
        }
    }

    private static void firstThatFits() {
        Due.sentence("answers: the first that fits");
        refused(0, 1, 0, Edge.BAD);
        refused(Edge.CELLS, 1, 1, Edge.BAD);
        refused(Edge.CELLS, 2, 99, Edge.BAD);
        refused(0, 4, 99, Edge.BAD);
    }

    private static void sets() {
        Due.sentence("10: A SIGN becomes v (as told): what it was. BAD");
        for (int i : new int[] {-1, Edge.SIGNS, 15, 16, Edge.LEAST, Edge.MOST}) {
            Edge.stays("set(" + i + ", 3)", x -> x.set(i, 3), Edge.BAD);
        }
        for (int v : new int[] {-1, 19, 20, Edge.LEAST, Edge.MOST}) {
            Edge.stays("set(0, " + v + ")", x -> x.set(0, v), Edge.BAD);
            Edge.stays("set(5, " + v + ")", x -> x.set(5, v), Edge.BAD);
        }
        for (int v : new int[] {0, 1, 17, 18}) {
            Edge.undone("set(0, " + v + ")", Edge::rich, x -> x.set(0, v), 0, x -> x.set(0, 0));
            Edge.undone("set(5, " + v + ")", Edge::rich, x -> x.set(5, v), 7, x -> x.set(5, 7));
            CellsInRow x = Edge.rich();
            x.set(5, v);
            Due.is("sign(5)", x.sign(5), v);
        }
        CellsInRow x = Due.told(SIXTEEN);
        Due.is("set(15, 18) of sixteen", x.set(15, 18), 15);
        Due.is("set(16, 18) of sixteen", x.set(16, 18), Edge.BAD);
        Due.is("sign(15)", x.sign(15), 18);
    }

    private static void adds() {
        Due.sentence("11: A SIGN more (as told), behind all others: how many there are. BAD; FULL. SIGNS: 16 at most");
        for (int v : new int[] {-1, 19, 20, Edge.LEAST, Edge.MOST}) {
            Edge.stays("add(" + v + ")", x -> x.add(v), Edge.BAD);
            Edge.stays("add(" + v + ") to sixteen", Edge.of(SIXTEEN), x -> x.add(v), Edge.BAD);
        }
        for (int v : new int[] {0, 1, 17, 18}) {
            CellsInRow x = Edge.rich();
            Due.is("add(" + v + ")", x.add(v), Edge.SIGNS + 1);
            Due.is("behind all others", x.sign(Edge.SIGNS), v);
            Edge.undone("add(" + v + ")", Edge::rich, y -> y.add(v), Edge.SIGNS + 1, y -> y.cut(Edge.SIGNS));
            Due.is("the first add(" + v + ")", new CellsInRow().add(v), 1);
            Edge.stays("add(" + v + ") to sixteen", Edge.of(SIXTEEN), y -> y.add(v), Edge.FULL);
        }
        CellsInRow x = Due.told(SIXTEEN);
        x.cut(14);
        Due.is("the 15th", x.add(3), 15);
        Due.is("the 16th", x.add(4), 16);
        Due.is("the 17th", x.add(5), Edge.FULL);
        Due.is("the 15th and the 16th", x.sign(14) * 100 + x.sign(15), 304);
    }

    private static void cuts() {
        Due.sentence("12: SIGNS are the first n alone: how many there were. BAD");
        for (int n : new int[] {-1, Edge.SIGNS + 1, 16, 17, Edge.LEAST, Edge.MOST}) {
            Edge.stays("cut(" + n + ")", x -> x.cut(n), Edge.BAD);
        }
        Edge.stays("cut(6) of 6", x -> x.cut(Edge.SIGNS), Edge.SIGNS);
        Edge.undone("cut(5) of 6", Edge::rich, x -> x.cut(5), Edge.SIGNS, x -> x.add(7));
        for (int n : new int[] {0, 1, Edge.SIGNS - 1}) {
            CellsInRow x = Edge.rich();
            Due.is("cut(" + n + ")", x.cut(n), Edge.SIGNS);
            Due.is("signs", x.rule(1), n);
            Due.is("sign behind the last", x.sign(n), Edge.BAD);
            Due.is("sign ahead of it", x.sign(n - 1), n == 0 ? Edge.BAD : n == 1 ? 0 : 5);
            Due.is("one more than there are", x.cut(n + 1), Edge.BAD);
        }
        Edge.stays("cut(16) of sixteen", Edge.of(SIXTEEN), x -> x.cut(16), 16);
        Edge.stays("cut(17) of sixteen", Edge.of(SIXTEEN), x -> x.cut(17), Edge.BAD);
        Edge.stays("cut(0) of none", Edge.of("pump 9 0 0;"), x -> x.cut(0), 0);
        Edge.stays("cut(1) of none", Edge.of("pump 9 0 0;"), x -> x.cut(1), Edge.BAD);
    }

    private static void sends() {
        Due.sentence("13: A CURRENT (as told) goes through all now: 1, if it STOPS, else 0. BAD");
        for (int v : new int[] {-1, 19, 20, Edge.LEAST, Edge.MOST}) {
            Edge.stays("send(" + v + ")", x -> x.send(v), Edge.BAD);
        }
        Edge.stays("send(9)", x -> x.send(9), 0);
        Due.sentence("13: without LEAKS (HOUR stays); STOPS is 1 more then");
        CellsInRow x = Edge.rich();
        Due.is("send(5): more than 3", x.send(5), 1);
        Due.is("STOPS", x.rule(3), 2);
        Due.is("HOUR", x.rule(2), 6);
        Due.charges("send(5)", x, 3, 3, 0);
        Due.is("send(6): 3", x.send(6), 0);
        Due.is("STOPS", x.rule(3), 2);
        Due.is("HOUR", x.rule(2), 6);
        Due.is("DONE", x.rule(5), 15);
        Due.charges("send(6), the pump's from the richest, which is emptied", x, 0, 0, 0);
    }

    private static void currents() {
        Due.sentence("told as 0 to 18: a CURRENT of 9 less than nothing to 9 more (9: none)");
        for (int v = 0; v <= 18; v++) {
            CellsInRow x = Due.told("bleed 99 50 0;");
            Due.is("send(" + v + ")", x.send(v), 0);
            Due.charges("send(" + v + ")", x, 50 + v - 9);
            Due.is("DONE by " + v, x.rule(5), v < 9 ? 9 - v : 0);
            Due.is("WASTE by " + v, x.rule(4), 0);
        }
    }

    private static void oneCell() {
        Due.sentence("It STOPS by a CURRENT, TAKES c, GIVES u, by KIND");
        for (int kind = 0; kind < 4; kind++) {
            CellsInRow x = Due.told(KINDS[kind] + " 12 0 9;");
            for (int charge = 0; charge <= 12; charge++) {
                for (int current = -9; current <= 9; current++) {
                    x.alter(0, 2, charge);
                    oneCell(x, kind, charge, current);
                }
                x = Due.told(KINDS[kind] + " 12 0 9;");
            }
        }
    }

    private static void oneCell(CellsInRow x, int kind, int charge, int current) {
        String call = "send(" + (current + 9) + ") to " + KINDS[kind] + " 12 " + charge;
        int stops = x.rule(3);
        int waste = x.rule(4);
        int done = x.rule(5);
        int then = charge + current;
        boolean stopped = then > 12 && kind == 0 || then < 0 && kind != 3;
        Due.is(call, x.send(current + 9), stopped ? 1 : 0);
        Due.is(call + ": CHARGE", x.unit(0, 2), stopped ? charge : then < 0 ? 0 : then > 12 ? 12 : then);
        Due.is(call + ": STOPS", x.rule(3) - stops, stopped ? 1 : 0);
        Due.is(call + ": WASTE", x.rule(4) - waste, stopped || then <= 12 ? 0 : then - 12);
        Due.is(call + ": DONE", x.rule(5) - done, stopped || current >= 0 ? 0 : -current);
        Due.is(call + ": HOUR", x.rule(2), 0);
    }

    private static void anyCell() {
        Due.sentence("It STOPS by a CURRENT, if any CELL does");
        for (int c = 0; c < 5; c++) {
            CellsInRow x = Due.told("plain 30 9 1;plain 30 9 1;plain 30 9 1;plain 30 9 1;plain 30 9 1;");
            x.alter(c, 2, 8);
            Due.is("down 9, cell " + c + " has 8", x.send(0), 1);
            Due.is("CHARGES", x.rule(6), 44);
            Due.is("DONE", x.rule(5), 0);
            x.alter(c, 2, 9);
            Due.is("down 9, all have 9", x.send(0), 0);
            Due.is("CHARGES", x.rule(6), 0);
            x.alter(c, 2, 22);
            Due.is("up 9, cell " + c + " has 22 of 30", x.send(18), 1);
            Due.is("CHARGES", x.rule(6), 22);
            x.alter(c, 2, 21);
            Due.is("up 9, cell " + c + " has 21 of 30", x.send(18), 0);
            Due.is("CHARGES", x.rule(6), 66);
            Due.is("STOPS", x.rule(3), 2);
        }
    }

    private static void sent(String text, int v, int waste, int... charges) {
        CellsInRow x = Due.told(text);
        String call = "send(" + v + ") to " + text;
        Due.is(call, x.send(v), 0);
        Due.charges(call, x, charges);
        Due.is(call + ": WASTE", x.rule(4), waste);
        Due.is(call + ": DONE", x.rule(5), v < 9 ? 9 - v : 0);
    }

    private static void filledAhead() {
        Due.sentence("plain what has room of it then, the rest is WASTE (one ahead may have filled it)");
        // the share one is full: its 5 are for the plain one, then come that one's own 5
        sent("share 3 3 0;plain 13 2 0;", 14, 0, 3, 12);
        sent("share 3 3 0;plain 12 2 0;", 14, 0, 3, 12);
        sent("share 3 3 0;plain 11 2 0;", 14, 1, 3, 11);
        sent("share 3 3 0;plain 7 2 0;", 14, 5, 3, 7);
        sent("share 3 3 0;bleed 6 2 0;", 14, 6, 3, 6);
        sent("pump 3 3 0;plain 11 2 0;", 14, 1, 3, 11);
        sent("bleed 3 3 0;plain 7 2 0;", 14, 5, 3, 7);
    }

    private static void poorest() {
        Due.sentence("of the rest the POOREST CELL has what has room in it, what is left then is WASTE");
        for (String kind : new String[] {"share", "pump"}) {
            // a rest of 1, 0: the bound of its own room
            sent(kind + " 8 3 0;bleed 40 2 0;", 14, 0, 8, 7);
            sent(kind + " 7 3 0;bleed 40 2 0;", 14, 0, 7, 8);
            sent(kind + " 9 3 0;bleed 40 2 0;", 14, 0, 8, 7);
            // the poorest has room for 6, 5, 4, 0 of a rest of 5, then for 1, 0 of its own
            sent(kind + " 3 3 0;bleed 8 2 0;", 14, 4, 3, 8);
            sent(kind + " 3 3 0;bleed 7 2 0;", 14, 5, 3, 7);
            sent(kind + " 3 3 0;bleed 6 2 0;", 14, 6, 3, 6);
            sent(kind + " 3 3 0;bleed 2 2 0;", 14, 10, 3, 2);
        }
    }

    private static void poorestOfSeveral() {
        Due.sentence("POOREST: of least CHARGE of all then (it, too), of several the first");
        for (String kind : new String[] {"share", "pump"}) {
            // itself, once it is full, is as poor as the other, poorer, richer
            sent(kind + " 3 3 0;plain 20 3 0;", 14, 5, 3, 8);
            sent(kind + " 3 3 0;plain 20 4 0;", 14, 5, 3, 9);
            sent(kind + " 3 3 0;plain 20 2 0;", 14, 0, 3, 12);
            // one ahead has taken its own by then
            sent("plain 20 3 0;" + kind + " 8 8 0;", 14, 0, 13, 8);
            sent("plain 20 4 0;" + kind + " 8 8 0;", 14, 5, 9, 8);
            sent("plain 20 2 0;" + kind + " 8 8 0;", 14, 0, 12, 8);
            // of two others the first, if they are alike
            sent(kind + " 9 9 0;plain 30 4 0;plain 30 4 0;", 14, 0, 9, 14, 9);
            sent(kind + " 9 9 0;plain 30 5 0;plain 30 4 0;", 14, 0, 9, 10, 14);
            sent(kind + " 9 9 0;plain 30 4 0;plain 30 5 0;", 14, 0, 9, 14, 10);
            // by charge, not by room
            sent(kind + " 9 9 0;bleed 4 4 0;plain 30 5 0;", 14, 10, 9, 4, 10);
        }
    }

    private static void emptiedAhead() {
        Due.sentence("plain what it has of it then (one ahead may have emptied it)");
        sent("pump 9 0 0;plain 20 11 0;", 4, 0, 0, 1);
        sent("pump 9 0 0;plain 20 10 0;", 4, 0, 0, 0);
        sent("pump 9 0 0;plain 20 9 0;", 4, 0, 0, 0);
        sent("pump 9 0 0;plain 20 5 0;", 4, 0, 0, 0);
        sent("pump 9 0 0;bleed 20 9 0;share 20 8 0;", 4, 0, 0, 0, 3);
        sent("pump 9 0 0;share 20 9 0;bleed 20 8 0;", 4, 0, 0, 0, 3);
    }

    private static void richest() {
        Due.sentence("pump likewise, but of the rest the RICHEST CELL gives what it has");
        // a rest of none, 1, all
        sent("pump 9 6 0;plain 30 20 0;", 4, 0, 1, 15);
        sent("pump 9 5 0;plain 30 20 0;", 4, 0, 0, 15);
        sent("pump 9 4 0;plain 30 20 0;", 4, 0, 0, 14);
        sent("pump 9 0 0;plain 30 20 0;", 4, 0, 0, 10);
        // what it has is more than the rest, as much, less, nothing
        sent("pump 9 0 0;pump 30 11 0;", 4, 0, 0, 1);
        sent("pump 9 0 0;pump 30 10 0;", 4, 0, 0, 0);
        sent("pump 9 0 0;pump 30 5 0;", 4, 0, 0, 0);
        sent("pump 9 0 0;pump 30 4 0;", 4, 0, 0, 0);
        sent("pump 9 0 0;pump 30 0 0;", 4, 0, 0, 0);
        sent("pump 30 20 0;pump 9 0 0;", 4, 0, 10, 0);
    }

    private static void richestOfSeveral() {
        Due.sentence("RICHEST: of most CHARGE of all then (it, too), of several the first");
        sent("pump 9 0 0;plain 20 9 0;plain 20 9 0;", 6, 0, 0, 3, 6);
        sent("pump 9 0 0;plain 20 8 0;plain 20 9 0;", 6, 0, 0, 5, 3);
        sent("pump 9 0 0;plain 20 10 0;plain 20 9 0;", 6, 0, 0, 4, 6);
        // one ahead has given its own by then
        sent("plain 20 12 0;pump 9 0 0;plain 20 9 0;", 6, 0, 6, 0, 6);
        sent("plain 20 11 0;pump 9 0 0;plain 20 9 0;", 6, 0, 8, 0, 3);
        // itself has given all by then, so that it is the richest only among the empty
        sent("pump 20 2 0;plain 9 3 0;", 6, 0, 0, 0);
        sent("pump 20 2 0;pump 9 0 0;", 6, 0, 0, 0);
    }

    private static void noCells() {
        Due.sentence("is it below nothing, and is there a CELL, DONE is more by how much it is");
        Edge.Made none = Edge.of("plan 0 18;");
        for (int v : new int[] {0, 8, 9, 10, 18}) {
            Edge.stays("send(" + v + ") without cells", none, x -> x.send(v), 0);
        }
        CellsInRow x = Due.told("pump 1 0 0;");
        Due.is("send(9)", x.send(9), 0);
        Due.is("DONE by none", x.rule(5), 0);
        Due.is("send(10)", x.send(10), 0);
        Due.is("DONE by 1 up", x.rule(5), 0);
        Due.is("send(8)", x.send(8), 0);
        Due.is("DONE by 1 down", x.rule(5), 1);
    }

    private static void stopsAtMost() {
        Due.sentence("STOPS is 1 more (9999 at most)");
        CellsInRow x = Due.told("plain 1 0 0;plan 0;");
        for (int i = 0; i < 99; i++) {
            x.hours(100);
        }
        x.hours(97);
        Due.is("STOPS", x.rule(3), 9997);
        Due.is("send(0)", x.send(0), 1);
        Due.is("STOPS", x.rule(3), 9998);
        x.keep(0);
        Due.is("send(0)", x.send(0), 1);
        Due.is("STOPS", x.rule(3), 9999);
        Due.is("send(0)", x.send(0), 1);
        Due.is("STOPS, by send()", x.rule(3), 9999);
        Due.is("hours(1)", x.hours(1), 0);
        Due.is("STOPS, by hours()", x.rule(3), 9999);
        x.back(0);
        x.hours(2);
        Due.is("STOPS, by two hours", x.rule(3), 9999);
    }

    /** The waste of the five cells is 9990; then all but the first have room enough. */
    private static CellsInRow wasting() {
        CellsInRow x = Due.told("bleed 9 9 0;bleed 9 9 0;bleed 9 9 0;bleed 9 9 0;bleed 9 9 0;plan 18;");
        x.hours(100);
        x.hours(100);
        x.hours(22);
        for (int c = 1; c < 5; c++) {
            x.alter(c, 1, 99);
        }
        return x;
    }

    private static void wasteAtMost() {
        Due.sentence("(WASTE: 9999 at most.)");
        int[][] sent = {{9, 9990}, {10, 9991}, {17, 9998}, {18, 9999}};
        for (int[] s : sent) {
            CellsInRow x = wasting();
            Due.is("WASTE", x.rule(4), 9990);
            x.send(s[0]);
            Due.is("WASTE by " + (s[0] - 9) + " more", x.rule(4), s[1]);
            x.send(11);
            Due.is("WASTE by 2 more", x.rule(4), Math.min(9999, s[1] + 2));
        }
        for (int current = 4; current <= 6; current++) {
            CellsInRow x = wasting();
            x.alter(1, 2, 99);
            x.send(9 + current);
            Due.is("WASTE by two cells' " + current, x.rule(4), Math.min(9999, 9990 + 2 * current));
        }
        CellsInRow x = wasting();
        x.hours(2);
        Due.is("WASTE by hours()", x.rule(4), 9999);
        x.keep(0);
        x.back(0);
        Due.is("WASTE of an image", x.rule(4), 9999);
    }

    private static void doneAtMost() {
        Due.sentence("DONE is more by how much it is (9999 at most)");
        int[][] sent = {{9, 9990}, {8, 9991}, {1, 9998}, {0, 9999}};
        for (int[] s : sent) {
            CellsInRow x = Due.told("pump 1 0 0;plan 0;");
            for (int i = 0; i < 11; i++) {
                x.hours(100);
            }
            x.hours(10);
            Due.is("DONE", x.rule(5), 9990);
            x.send(s[0]);
            Due.is("DONE by " + (9 - s[0]) + " more", x.rule(5), s[1]);
            x.keep(0);
            x.send(7);
            Due.is("DONE by 2 more", x.rule(5), Math.min(9999, s[1] + 2));
            x.back(0);
            Due.is("hours(1)", x.hours(1), 9);
            Due.is("DONE by an hour more", x.rule(5), 9999);
        }
    }
}
