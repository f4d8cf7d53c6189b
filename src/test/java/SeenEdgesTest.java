/** The edges of promises 25 to 29 and of SEEN, a sentence at a time. */
public final class SeenEdgesTest {
    private static final String UP = "plan 9 9 9 9 9 9 9 10;";
    /** 9 up in hour 39 alone, as cell 1 stops those of hours 0, 13 and 26; in between two times 5 up each. */
    private static final String LATE = "plain 99 0 0;plain 99 97 1;plan 18 9 9 9 14 9 9 9 14 9 9 9 9;";
    /** The same an hour later. */
    private static final String LATER = "plain 99 0 0;plain 99 98 1;plan 9 18 9 9 9 14 9 9 9 14 9 9 9;";

    public static void main(String[] args) {
        sees();
        seesTooMuch();
        sixSeen();
        forgets();
        forgetsOfOthers();
        kindsAsked();
        kindBits();
        kindsOfHours();
        leaksAsked();
        leakBits();
        leaksOfHours();
        fromNowOn();
        asksAsked();
        asksOfHours();
        asksFirst();
        asksFewer();
        Due.finish();
    }

    private static CellsInRow six() {
        CellsInRow x = Edge.rich();
        x.see(3, 0, 0);
        x.see(3, 1, 3);
        x.see(3, 2, 0);
        return x;
    }

    private static void sees() {
        Due.sentence("25: behind n HOURS (0 to 40) CHARGE of a CELL is v (0 to 99): how many are. BAD");
        for (int n : new int[] {-1, 41, 42, Edge.LEAST, Edge.MOST}) {
            Edge.stays("see(" + n + ", 0, 1)", x -> x.see(n, 0, 1), Edge.BAD);
        }
        for (int c : new int[] {-1, Edge.CELLS, 5, Edge.LEAST, Edge.MOST}) {
            Edge.stays("see(1, " + c + ", 1)", x -> x.see(1, c, 1), Edge.BAD);
        }
        for (int v : new int[] {-1, 100, 101, Edge.LEAST, Edge.MOST}) {
            Edge.stays("see(1, 0, " + v + ")", x -> x.see(1, 0, v), Edge.BAD);
        }
        int[][] good = {{0, 0, 3}, {1, 0, 2}, {39, 0, 0}, {40, 0, 0}, {0, 2, 0}, {0, 0, 0}, {1, 0, 98}, {1, 0, 99}};
        for (int[] g : good) {
            String call = "see(" + g[0] + ", " + g[1] + ", " + g[2] + ")";
            Edge.undone(call, Edge::rich, x -> x.see(g[0], g[1], g[2]), Edge.SEEN + 1, x -> x.forget(Edge.SEEN));
        }
    }

    private static void seesTooMuch() {
        Due.sentence("25: v (0 to 99), whatever the ROOM");
        CellsInRow x = Due.told("plain 9 5 0;");
        Due.is("see more than its room", x.see(0, 0, 10), 1);
        Due.is("kinds by none", x.kinds(0), 0);
        Due.is("leaks by none", x.leaks(0), 0);
    }

    private static void sixSeen() {
        Due.sentence("SEEN (6). 25: FULL");
        CellsInRow x = Due.told("plain 9 5 0;");
        for (int i = 1; i <= 6; i++) {
            Due.is("see the " + i + "th", x.see(0, 0, 5), i);
            Due.is("seen", x.count(0), i);
        }
        Due.is("see the 7th", x.see(0, 0, 4), Edge.FULL);
        Due.is("all is as seen", x.kinds(0), 15);
        Edge.stays("see the 7th", SeenEdgesTest::six, y -> y.see(0, 0, 3), Edge.FULL);
        Edge.stays("see the 7th, too late", SeenEdgesTest::six, y -> y.see(41, 0, 3), Edge.BAD);
        Edge.stays("see the 7th, no cell", SeenEdgesTest::six, y -> y.see(0, 3, 3), Edge.BAD);
        Edge.stays("see the 7th, too much", SeenEdgesTest::six, y -> y.see(0, 0, 100), Edge.BAD);
        Due.is("forget(5)", x.forget(5), 6);
        Due.is("see the 6th", x.see(0, 0, 4), 6);
        Due.is("not all is as seen", x.kinds(0), 0);
    }

    private static void forgets() {
        Due.sentence("26: SEEN are the first n alone: how many there were. BAD");
        for (int n : new int[] {-1, Edge.SEEN + 1, 6, 7, Edge.LEAST, Edge.MOST}) {
            Edge.stays("forget(" + n + ")", x -> x.forget(n), Edge.BAD);
        }
        Edge.stays("forget(3) of 3", x -> x.forget(Edge.SEEN), Edge.SEEN);
        Edge.undone("forget(2) of 3", Edge::rich, x -> x.forget(2), Edge.SEEN, x -> x.see(1, 1, 3));
        for (int n : new int[] {0, 1, Edge.SEEN - 1}) {
            CellsInRow x = Edge.rich();
            Due.is("forget(" + n + ")", x.forget(n), Edge.SEEN);
            Due.is("seen", x.count(0), n);
            Due.is("one more than there are", x.forget(n + 1), Edge.BAD);
        }
    }

    private static void forgetsOfOthers() {
        Due.sentence("26: SEEN are the first n alone. SEEN (6)");
        Edge.stays("forget(6) of 6", SeenEdgesTest::six, x -> x.forget(6), 6);
        Edge.stays("forget(7) of 6", SeenEdgesTest::six, x -> x.forget(7), Edge.BAD);
        Edge.Made none = Edge.of("plain 9 5 0;");
        Edge.stays("forget(0) of none", none, x -> x.forget(0), 0);
        Edge.stays("forget(1) of none", none, x -> x.forget(1), Edge.BAD);
        Edge.stays("forget(-1) of none", none, x -> x.forget(-1), Edge.BAD);
        // the first tells nothing of leaks, the second a leak of 2, the third gainsays it
        CellsInRow x = Due.told("plain 9 9 0;");
        x.see(0, 0, 9);
        x.see(4, 0, 1);
        x.see(4, 0, 2);
        Due.is("leaks by all three", x.leaks(0), 0);
        x.forget(2);
        Due.is("leaks by the first two", x.leaks(0), 4);
        x.forget(1);
        Due.is("leaks by the first", x.leaks(0), 1023);
    }

    private static void kindsAsked() {
        Due.sentence("27: KINDS of a CELL. BAD");
        for (int c : new int[] {-1, Edge.CELLS, 5, Edge.LEAST, Edge.MOST}) {
            Edge.stays("kinds(" + c + ")", x -> x.kinds(c), Edge.BAD);
        }
        for (int c = 0; c < Edge.CELLS; c++) {
            int i = c;
            Edge.stays("kinds(" + c + ")", x -> x.kinds(i), 15);
        }
    }

    private static void kindBits() {
        Due.sentence("27: KINDS of a CELL (bits) by which, all else as it is, all is as SEEN");
        for (String kind : new String[] {"plain", "bleed", "share", "pump"}) {
            String cells = kind + " 9 9 0;plain 20 2 0;";
            Edge.stays("nothing is SEEN", Edge.of(cells), x -> x.kinds(0), 15);
            // 3 up: a plain one stops it, a bleed's rest is gone, the other two's is for the other
            Edge.Made up = Edge.of(cells + "plan 12;");
            int[][] seen = {{2, 1}, {5, 2}, {8, 12}, {4, 0}, {9, 0}};
            for (int[] s : seen) {
                Edge.Made made = Edge.of(cells + "plan 12;", x -> x.see(1, 1, s[0]));
                Edge.stays("the other has " + s[0], made, x -> x.kinds(0), s[1]);
            }
            Edge.stays("nothing is SEEN", up, x -> x.kinds(0), 15);
            // 3 down with 2: a pump alone goes, and draws the rest from the other
            Edge.Made down = Edge.of(kind + " 9 2 0;plain 20 12 0;plan 6;", x -> x.see(1, 0, 0));
            Edge.stays("a pump", down, x -> x.kinds(0), 8);
            Edge.Made stopped = Edge.of(kind + " 9 2 0;plain 20 12 0;plan 6;", x -> x.see(1, 0, 2));
            Edge.stays("all but a pump", stopped, x -> x.kinds(0), 7);
            // both of what is SEEN
            Edge.Made both = Edge.of(cells + "plan 12;", x -> x.see(1, 1, 8), x -> x.see(1, 1, 5));
            Edge.stays("not both", both, x -> x.kinds(0), 0);
        }
    }

    private static void kindsOfHours() {
        Due.sentence("SEEN: behind n HOURS (0 to 40) from now on CHARGE of a CELL is v");
        int[][] seen = {{0, 0, 15}, {0, 1, 0}, {1, 0, 15}, {7, 0, 15}, {7, 1, 0}, {8, 1, 15}, {8, 0, 0}, {39, 4, 15}, {39, 5, 0},
            {40, 5, 15}, {40, 4, 0}, {40, 6, 0}};
        for (int[] s : seen) {
            Edge.Made made = Edge.of("plain 99 0 0;" + UP, x -> x.see(s[0], 0, s[1]));
            Edge.stays("behind " + s[0] + ": " + s[1], made, x -> x.kinds(0), s[2]);
            Edge.stays("behind " + s[0] + ": " + s[1], made, x -> x.leaks(0) & 1, s[2] & 1);
        }
    }

    private static void leaksAsked() {
        Due.sentence("28: LEAKS of a CELL. BAD");
        for (int c : new int[] {-1, Edge.CELLS, 5, Edge.LEAST, Edge.MOST}) {
            Edge.stays("leaks(" + c + ")", x -> x.leaks(c), Edge.BAD);
        }
        // cell 0 is SEEN to leak 1, cell 1 not to leak; the pump has nothing to leak
        int[] leaks = {2, 1, 1023};
        for (int c = 0; c < Edge.CELLS; c++) {
            int i = c;
            Edge.stays("leaks(" + c + ")", x -> x.leaks(i), leaks[c]);
        }
    }

    private static void leakBits() {
        Due.sentence("28: LEAKS of a CELL (bits 0 to 9) by which, all else as it is, all is as SEEN");
        Edge.stays("nothing is SEEN", Edge.of("plain 99 99 5;"), x -> x.leaks(0), 1023);
        for (int v = 88; v <= 99; v++) {
            int charge = v;
            Edge.Made made = Edge.of("plain 99 99 5;", x -> x.see(1, 0, charge));
            Edge.stays("behind 1: " + v, made, x -> x.leaks(0), v < 90 ? 0 : 1 << 99 - v);
        }
        for (int charge = 0; charge <= 10; charge++) {
            // those of as much and more leave nothing
            int due = charge > 9 ? 0 : 1023 >> charge << charge;
            Edge.Made made = Edge.of("plain 99 " + charge + " 5;", x -> x.see(1, 0, 0));
            Edge.stays("of " + charge + " none is left", made, x -> x.leaks(0), due);
        }
        Edge.Made both = Edge.of("plain 99 9 5;", x -> x.see(2, 0, 0), x -> x.see(1, 0, 3));
        Edge.stays("by both", both, x -> x.leaks(0), 64);
        Edge.Made other = Edge.of("plain 99 9 5;plain 9 9 1;", x -> x.see(1, 1, 7));
        Edge.stays("by no leak of this one", other, x -> x.leaks(0), 0);
        Edge.stays("by a leak of the other", other, x -> x.leaks(1), 4);
    }

    private static void leaksOfHours() {
        Due.sentence("SEEN: behind n HOURS (0 to 40)");
        int[][] seen = {{0, 99, 1023}, {0, 98, 0}, {39, 99, 1}, {39, 60, 2}, {39, 21, 4}, {39, 0, 1016}, {39, 59, 0},
            {40, 99, 1}, {40, 59, 2}, {40, 19, 4}, {40, 0, 1016}, {40, 60, 0}};
        for (int[] s : seen) {
            Edge.Made made = Edge.of("plain 99 99 9;", x -> x.see(s[0], 0, s[1]));
            Edge.stays("behind " + s[0] + ": " + s[1], made, x -> x.leaks(0), s[2]);
        }
    }

    private static void fromNowOn() {
        Due.sentence("SEEN: behind n HOURS from now on");
        CellsInRow x = Due.told("plain 99 99 3;");
        x.see(1, 0, 96);
        Due.is("leaks", x.leaks(0), 8);
        x.hours(1);
        Due.is("an hour later, all with 96", x.leaks(0), 1);
        x.alter(0, 2, 99);
        Due.is("with 99 again", x.leaks(0), 8);
        Due.is("seen", x.count(0), 1);
    }

    private static void asksAsked() {
        Due.sentence("29: CHARGE of a CELL, what 0, 1. BAD; NONE: none");
        for (int c : new int[] {-1, Edge.CELLS, 5, Edge.LEAST, Edge.MOST}) {
            Edge.stays("ask(" + c + ", 0)", x -> x.ask(c, 0), Edge.BAD);
        }
        for (int what : new int[] {-1, 2, Edge.LEAST, Edge.MOST}) {
            Edge.stays("ask(0, " + what + ")", x -> x.ask(0, what), Edge.BAD);
            Edge.stays("ask(2, " + what + ")", x -> x.ask(2, what), Edge.BAD);
        }
        // one leak of each is left already
        for (int what = 0; what <= 1; what++) {
            int w = what;
            Edge.stays("ask(0, " + w + ")", x -> x.ask(0, w), Edge.NONE);
            Edge.stays("ask(1, " + w + ")", x -> x.ask(1, w), Edge.NONE);
        }
    }

    private static void asksOfHours() {
        Due.sentence("29: Behind how many HOURS (0 to 40)");
        // leaks of 5 to 9 are left: 5 up leave nothing of any, but 9 up do
        Edge.Made at40 = Edge.of(LATE, x -> x.see(5, 0, 0));
        Edge.stays("leaks that are left", at40, x -> x.leaks(0), 0x3e0);
        Edge.stays("ask(0, 0)", at40, x -> x.ask(0, 0), 40);
        Edge.stays("ask(0, 1)", at40, x -> x.ask(0, 1), 1);
        Edge.Made at39 = Edge.of(LATE, x -> x.hours(1), x -> x.see(4, 0, 0));
        Edge.stays("leaks that are left", at39, x -> x.leaks(0), 0x3e0);
        Edge.stays("ask(0, 0) an hour later", at39, x -> x.ask(0, 0), 39);
        Edge.stays("ask(0, 1) an hour later", at39, x -> x.ask(0, 1), 1);
        Edge.Made at41 = Edge.of(LATER, x -> x.see(6, 0, 0));
        Edge.stays("leaks that are left", at41, x -> x.leaks(0), 0x3e0);
        Edge.stays("ask(0, 0): behind 41", at41, x -> x.ask(0, 0), Edge.NONE);
        Edge.stays("ask(0, 1): behind 41", at41, x -> x.ask(0, 1), Edge.NONE);
        // behind none nothing is told: CHARGE is what it is
        Edge.stays("ask(0, 0): behind 1", Edge.of("plain 99 9 0;"), x -> x.ask(0, 0), 1);
        Edge.stays("ask(0, 1): behind 1", Edge.of("plain 99 9 0;"), x -> x.ask(0, 1), 1);
    }

    private static void asksFirst() {
        Due.sentence("29: fewest are left at the worst, fewer than now, the first");
        // of c the leaks of c and more leave nothing
        int[][] due = {{1, 9}, {2, 8}, {8, 2}, {9, 1}, {10, 1}, {99, 1}};
        for (int[] d : due) {
            Edge.Made made = Edge.of("plain 99 " + d[0] + " 0;");
            Edge.stays("ask(0, 0) of " + d[0], made, x -> x.ask(0, 0), 1);
            Edge.stays("ask(0, 1) of " + d[0], made, x -> x.ask(0, 1), d[1]);
        }
        // behind 1 eight of ten are left, behind 3 five, when 5 more have come
        Edge.Made later = Edge.of("plain 99 2 0;plan 9 9 14 9 9 9 9 9 9 9 9 9 9 9 9 9;");
        Edge.stays("ask(0, 0), later more", later, x -> x.ask(0, 0), 3);
        Edge.stays("ask(0, 1), later more", later, x -> x.ask(0, 1), 5);
    }

    private static void asksFewer() {
        Due.sentence("29: fewer than now. NONE: none");
        Edge.stays("all alike", Edge.of("plain 99 0 0;"), x -> x.ask(0, 0), Edge.NONE);
        Edge.stays("none is left", Edge.of("plain 99 9 0;", x -> x.see(1, 0, 10)), x -> x.ask(0, 0), Edge.NONE);
        Edge.stays("none is left", Edge.of("plain 99 9 0;", x -> x.see(1, 0, 10)), x -> x.ask(0, 1), Edge.NONE);
        Edge.stays("one is left", Edge.of("plain 99 9 0;", x -> x.see(1, 0, 9)), x -> x.ask(0, 0), Edge.NONE);
        // 5 and more leave nothing of 9 behind 2, but 9 alone behind 1
        Edge.Made two = Edge.of("plain 99 9 0;", x -> x.see(2, 0, 0), x -> x.see(1, 0, 0));
        Edge.stays("one is left: 9", two, x -> x.leaks(0), 512);
        Edge.stays("one is left: 9", two, x -> x.ask(0, 0), Edge.NONE);
        Edge.Made alike = Edge.of("plain 99 8 0;", x -> x.see(1, 0, 0));
        Edge.stays("two are left: 8, 9", alike, x -> x.leaks(0), 768);
        Edge.stays("alike for ever", alike, x -> x.ask(0, 0), Edge.NONE);
        Edge.Made apart = Edge.of("plain 99 8 0;plan 9 18;", x -> x.see(1, 0, 0));
        Edge.stays("two are left: 8, 9", apart, x -> x.leaks(0), 768);
        Edge.stays("till 9 have come", apart, x -> x.ask(0, 0), 2);
        Edge.stays("till 9 have come", apart, x -> x.ask(0, 1), 1);
    }
}
