/** The edges of promises 18 to 22, a sentence at a time. */
public final class BestEdgesTest {
    private static final String DOWN = HoursEdgesTest.EIGHTH_DOWN;
    private static final String UP = "plan 9 9 9 9 9 9 9 10;";
    /** Behind how many hours of those plans how many of their currents have come. */
    private static final int[][] CAME = {{0, 0}, {1, 0}, {7, 0}, {8, 1}, {9, 1}, {191, 23}, {192, 24}, {199, 24}, {200, 25}};

    public static void main(String[] args) {
        kindsAsked();
        kindsOfHours();
        kindsOfSeveral();
        beginsAsked();
        beginsOfHours();
        beginsOfRooms();
        needsAsked();
        needsOfHours();
        needsOfCharges();
        needsOfNone();
        swapsAsked();
        swapsOfHours();
        swappedPlaces();
        swapsOfSeveral();
        bridgesAsked();
        bridgesOfHours();
        bridgedCells();
        bridgesOfSeveral();
        Due.finish();
    }

    private static void kindsAsked() {
        Due.sentence("18: KIND of a CELL, n HOURS (0 to 200), what 0, 1. BAD");
        for (int c : new int[] {-1, Edge.CELLS, 5, Edge.LEAST, Edge.MOST}) {
            Edge.stays("kind(" + c + ", 1, 0)", x -> x.kind(c, 1, 0), Edge.BAD);
        }
        for (int n : new int[] {-1, 201, 202, Edge.LEAST, Edge.MOST}) {
            Edge.stays("kind(0, " + n + ", 0)", x -> x.kind(0, n, 0), Edge.BAD);
        }
        for (int what : new int[] {-1, 2, Edge.LEAST, Edge.MOST}) {
            Edge.stays("kind(0, 1, " + what + ")", x -> x.kind(0, 1, what), Edge.BAD);
        }
        Edge.stays("kind(0, 0, 0)", x -> x.kind(0, 0, 0), 0);
        Edge.stays("kind(2, 0, 1)", x -> x.kind(2, 0, 1), 0);
    }

    private static void kindsOfHours() {
        Due.sentence("18: by which most is DONE in n HOURS (0 to 200), how much (1)");
        Edge.Made made = Edge.of("bleed 9 0 0;" + DOWN);
        for (int[] came : CAME) {
            int n = came[0];
            Edge.stays("kind(0, " + n + ", 0)", made, x -> x.kind(0, n, 0), came[1] == 0 ? 0 : 3);
            Edge.stays("kind(0, " + n + ", 1)", made, x -> x.kind(0, n, 1), came[1]);
        }
    }

    private static void kindsOfSeveral() {
        Due.sentence("18: The KIND by which most is DONE, of several the first");
        for (String kind : new String[] {"plain", "bleed", "share", "pump"}) {
            Edge.stays("all alike, " + kind, Edge.of(kind + " 9 9 0;plan 0;"), x -> x.kind(0, 1, 0), 0);
            // a plain one would stop the current up, and then not have the 4 down
            Edge.Made fills = Edge.of(kind + " 4 2 0;plan 12 5 9;");
            Edge.stays("all but plain, " + kind, fills, x -> x.kind(0, 2, 0), 1);
            Edge.stays("how much", fills, x -> x.kind(0, 2, 1), 4);
            // the other has 5 to give only with the rest of the full one
            Edge.Made shares = Edge.of(kind + " 9 9 0;plain 20 0 0;plan 12 4;");
            Edge.stays("share and pump, " + kind, shares, x -> x.kind(0, 2, 0), 2);
            Edge.stays("how much", shares, x -> x.kind(0, 2, 1), 5);
            Edge.Made empty = Edge.of(kind + " 9 0 0;plan 8;");
            Edge.stays("pump alone, " + kind, empty, x -> x.kind(0, 3, 0), 3);
            Edge.stays("how much", empty, x -> x.kind(0, 3, 1), 3);
        }
    }

    private static void beginsAsked() {
        Due.sentence("19: CHARGE of a CELL, n HOURS (0 to 200), what 0, 1. BAD");
        for (int c : new int[] {-1, Edge.CELLS, 5, Edge.LEAST, Edge.MOST}) {
            Edge.stays("begin(" + c + ", 1, 0)", x -> x.begin(c, 1, 0), Edge.BAD);
        }
        for (int n : new int[] {-1, 201, 202, Edge.LEAST, Edge.MOST}) {
            Edge.stays("begin(0, " + n + ", 0)", x -> x.begin(0, n, 0), Edge.BAD);
        }
        for (int what : new int[] {-1, 2, Edge.LEAST, Edge.MOST}) {
            Edge.stays("begin(0, 1, " + what + ")", x -> x.begin(0, 1, what), Edge.BAD);
        }
        Edge.stays("begin(0, 0, 0)", x -> x.begin(0, 0, 0), 0);
        Edge.stays("begin(2, 0, 1)", x -> x.begin(2, 0, 1), 0);
    }

    private static void beginsOfHours() {
        Due.sentence("19: by which most is DONE in n HOURS (0 to 200), of several the least, how much (1)");
        Edge.Made made = Edge.of("bleed 99 50 0;" + DOWN);
        for (int[] came : CAME) {
            int n = came[0];
            Edge.stays("begin(0, " + n + ", 0)", made, x -> x.begin(0, n, 0), came[1]);
            Edge.stays("begin(0, " + n + ", 1)", made, x -> x.begin(0, n, 1), came[1]);
        }
    }

    private static void beginsOfRooms() {
        Due.sentence("19: The CHARGE of a CELL (0 to ROOM), of several the least");
        for (int room : new int[] {1, 24, 25, 26, 99}) {
            Edge.Made made = Edge.of("bleed " + room + " 0 0;" + DOWN);
            Edge.stays("most, room " + room, made, x -> x.begin(0, 200, 0), Math.min(room, 25));
            Edge.stays("how much", made, x -> x.begin(0, 200, 1), Math.min(room, 25));
        }
        Edge.stays("99 of 99", Edge.of("bleed 99 0 0;plan 0;"), x -> x.begin(0, 11, 0), 99);
        Edge.stays("90 of 98", Edge.of("bleed 98 0 0;plan 0;"), x -> x.begin(0, 11, 0), 90);
        // 0 alone lets the 9 up into the room of 9
        Edge.stays("0", Edge.of("plain 9 9 0;plan 18 0;"), x -> x.begin(0, 2, 1), 9);
        Edge.stays("0", Edge.of("plain 9 9 0;plan 18 0;"), x -> x.begin(0, 2, 0), 0);
        Edge.stays("all alike", Edge.of("pump 9 9 0;plan 0;"), x -> x.begin(0, 2, 0), 0);
    }

    private static void needsAsked() {
        Due.sentence("20: ROOM of a CELL, n HOURS (0 to 200). BAD");
        for (int c : new int[] {-1, Edge.CELLS, 5, Edge.LEAST, Edge.MOST}) {
            Edge.stays("need(" + c + ", 0)", x -> x.need(c, 0), Edge.BAD);
        }
        for (int n : new int[] {-1, 201, 202, Edge.LEAST, Edge.MOST}) {
            Edge.stays("need(0, " + n + ")", x -> x.need(0, n), Edge.BAD);
        }
        Edge.stays("need(0, 0)", x -> x.need(0, 0), 3);
        Edge.stays("need(2, 0)", x -> x.need(2, 0), 1);
        Edge.stays("need(0, 1)", x -> x.need(0, 1), Edge.NONE);
    }

    private static void needsOfHours() {
        Due.sentence("20: The least ROOM by which it never STOPS in n HOURS (0 to 200)");
        for (int room : new int[] {1, 25, 99}) {
            Edge.Made made = Edge.of("plain " + room + " 0 0;" + UP);
            for (int[] came : CAME) {
                int n = came[0];
                Edge.stays("need(0, " + n + ") of room " + room, made, x -> x.need(0, n), Math.max(1, came[1]));
            }
        }
    }

    private static void needsOfCharges() {
        Due.sentence("20: ROOM (not less than its CHARGE; 1 to 99). NONE: by none");
        for (int charge : new int[] {0, 1, 2, 50, 73, 74}) {
            Edge.Made made = Edge.of("plain 99 " + charge + " 0;" + UP);
            Edge.stays("need(0, 7), charge " + charge, made, x -> x.need(0, 7), Math.max(1, charge));
            Edge.stays("need(0, 8), charge " + charge, made, x -> x.need(0, 8), charge + 1);
            Edge.stays("need(0, 200), charge " + charge, made, x -> x.need(0, 200), charge + 25);
        }
        Edge.stays("24 more than 75", Edge.of("plain 99 75 0;" + UP), x -> x.need(0, 199), 99);
        Edge.stays("25 more than 75", Edge.of("plain 99 75 0;" + UP), x -> x.need(0, 200), Edge.NONE);
        Edge.stays("none more than 99", Edge.of("plain 99 99 0;" + UP), x -> x.need(0, 7), 99);
        Edge.stays("1 more than 99", Edge.of("plain 99 99 0;" + UP), x -> x.need(0, 8), Edge.NONE);
        Edge.stays("a bleed's", Edge.of("bleed 99 7 0;" + UP), x -> x.need(0, 200), 7);
    }

    private static void needsOfNone() {
        Due.sentence("20: by which it (the row, by any CELL) never STOPS. NONE: by none");
        Edge.Made other = Edge.of("plain 9 0 0;plain 9 9 0;" + UP);
        Edge.stays("the other is full", other, x -> x.need(0, 8), Edge.NONE);
        Edge.stays("ahead of that", other, x -> x.need(0, 7), 1);
        Edge.stays("that one needs 10", other, x -> x.need(1, 8), 10);
        Edge.stays("empty", Edge.of("bleed 9 0 0;" + DOWN), x -> x.need(0, 8), Edge.NONE);
        Edge.stays("ahead of that", Edge.of("bleed 9 0 0;" + DOWN), x -> x.need(0, 7), 1);
        // with 1 alone the pump leaves the other 5 in all
        Edge.Made pump = Edge.of("pump 9 0 0;plain 20 0 0;plan 12 4;");
        Edge.stays("the least alone", pump, x -> x.need(0, 2), 1);
    }

    private static void swapsAsked() {
        Due.sentence("21: n HOURS (0 to 200), what 0, 1. BAD");
        for (int n : new int[] {-1, 201, 202, Edge.LEAST, Edge.MOST}) {
            Edge.stays("swap(" + n + ", 0)", x -> x.swap(n, 0), Edge.BAD);
        }
        for (int what : new int[] {-1, 2, Edge.LEAST, Edge.MOST}) {
            Edge.stays("swap(1, " + what + ")", x -> x.swap(1, what), Edge.BAD);
        }
        Edge.stays("swap(0, 0)", x -> x.swap(0, 0), Edge.NONE);
        Edge.stays("swap(0, 1)", x -> x.swap(0, 1), Edge.NONE);
    }

    private static void swapsOfHours() {
        Due.sentence("21: most is DONE in n HOURS (0 to 200), more than as it is. NONE: by none");
        // as it is the first down stops; with 0 and 7 changed none does, which is one more in hours 7, .., 199
        Edge.Made made = Edge.of("bleed 9 0 0;plan 8 9 9 9 9 9 9 10;");
        int[][] due = {{1, 0}, {7, 0}, {8, 1}, {9, 0}, {191, 0}, {192, 24}, {193, 0}, {199, 0}, {200, 25}};
        for (int[] d : due) {
            int n = d[0];
            Edge.stays("swap(" + n + ", 0)", made, x -> x.swap(n, 0), d[1] == 0 ? Edge.NONE : 7);
            Edge.stays("swap(" + n + ", 1)", made, x -> x.swap(n, 1), d[1] == 0 ? Edge.NONE : d[1]);
        }
    }

    /** At hour i: 5 down that stops, then, behind it, 5 up. */
    private static Edge.Made downThenUp(int i) {
        StringBuilder plan = new StringBuilder("bleed 9 0 0;plan");
        for (int s = 0; s < 16; s++) {
            plan.append(s == i ? " 4" : s == (i + 1) % 16 ? " 14" : " 9");
        }
        return Edge.of(plan + ";", x -> x.hours(i), x -> x.alter(0, 2, 0));
    }

    private static void swappedPlaces() {
        Due.sentence("21: Two SIGNS: 100 times the lesser and the greater");
        for (int i = 0; i < 16; i++) {
            int due = i == 15 ? 15 : 100 * i + i + 1;
            Edge.stays("swap(2, 0) at hour " + i, downThenUp(i), x -> x.swap(2, 0), due);
            Edge.stays("swap(2, 1) at hour " + i, downThenUp(i), x -> x.swap(2, 1), 5);
            Edge.stays("swap(1, 0) at hour " + i, downThenUp(i), x -> x.swap(1, 0), Edge.NONE);
        }
        Due.sentence("21: NONE: by none");
        Edge.stays("no signs", Edge.of("bleed 9 5 0;"), x -> x.swap(9, 0), Edge.NONE);
        Edge.stays("one sign", Edge.of("bleed 9 5 0;plan 4;"), x -> x.swap(9, 0), Edge.NONE);
        Edge.stays("two signs", Edge.of("bleed 9 0 0;plan 4 14;"), x -> x.swap(2, 0), 1);
        Edge.stays("two signs alike", Edge.of("bleed 9 0 0;plan 4 4;"), x -> x.swap(2, 0), Edge.NONE);
        Edge.stays("no cells", Edge.of("plan 0 18;"), x -> x.swap(1, 0), Edge.NONE);
    }

    private static void swapsOfSeveral() {
        Due.sentence("21: so that most is DONE, more than as it is, of several the least");
        // as much, but not more
        Edge.stays("as much", Edge.of("bleed 9 5 0;plan 4 14;"), x -> x.swap(2, 0), Edge.NONE);
        Edge.stays("one more", Edge.of("bleed 9 5 0;plan 4 3;"), x -> x.swap(2, 0), Edge.NONE);
        Edge.stays("one more", Edge.of("bleed 9 6 0;plan 4 3;"), x -> x.swap(2, 0), 1);
        Edge.stays("how much", Edge.of("bleed 9 6 0;plan 4 3;"), x -> x.swap(2, 1), 6);
        // 0 with 2, 0 with 3, 1 with 2 bring one up ahead of one down in three hours; in four 0 with 3 brings two
        Edge.Made several = Edge.of("bleed 9 0 0;plan 4 4 14 14;");
        Edge.stays("of several the least", several, x -> x.swap(3, 0), 2);
        Edge.stays("how much", several, x -> x.swap(3, 1), 5);
        Edge.stays("the one by which most is DONE", several, x -> x.swap(4, 0), 3);
        Edge.stays("how much", several, x -> x.swap(4, 1), 10);
        // a later pair is better than an earlier one, which is better than as it is
        Edge.stays("most", Edge.of("pump 9 0 0;plan 8 7 6;"), x -> x.swap(1, 0), 2);
        Edge.stays("most", Edge.of("pump 9 0 0;plan 8 6 7;"), x -> x.swap(1, 0), 1);
        Edge.stays("most", Edge.of("pump 9 0 0;plan 8 6 7;"), x -> x.swap(1, 1), 3);
    }

    private static void bridgesAsked() {
        Due.sentence("22: n HOURS (0 to 200), what 0, 1. BAD");
        for (int n : new int[] {-1, 201, 202, Edge.LEAST, Edge.MOST}) {
            Edge.stays("bridge(" + n + ", 0)", x -> x.bridge(n, 0), Edge.BAD);
        }
        for (int what : new int[] {-1, 2, Edge.LEAST, Edge.MOST}) {
            Edge.stays("bridge(1, " + what + ")", x -> x.bridge(1, what), Edge.BAD);
        }
        Edge.stays("bridge(0, 0)", x -> x.bridge(0, 0), Edge.NONE);
        Edge.stays("bridge(0, 1)", x -> x.bridge(0, 1), Edge.NONE);
    }

    private static void bridgesOfHours() {
        Due.sentence("22: most is DONE in n HOURS (0 to 200), more than as it is. NONE: none");
        Edge.Made made = Edge.of("plain 9 0 0;pump 9 0 0;" + DOWN);
        for (int[] came : CAME) {
            int n = came[0];
            Edge.stays("bridge(" + n + ", 0)", made, x -> x.bridge(n, 0), came[1] == 0 ? Edge.NONE : 0);
            Edge.stays("bridge(" + n + ", 1)", made, x -> x.bridge(n, 1), came[1] == 0 ? Edge.NONE : came[1]);
        }
        Edge.stays("no cells", Edge.of("plan 0;"), x -> x.bridge(9, 0), Edge.NONE);
        Edge.stays("no signs", Edge.of("plain 9 0 0;"), x -> x.bridge(9, 0), Edge.NONE);
    }

    private static void bridgedCells() {
        Due.sentence("22: it STOPS nothing");
        for (int c = 0; c < 5; c++) {
            int empty = c;
            Edge.Made made = Edge.of("bleed 9 5 0;bleed 9 5 0;bleed 9 5 0;bleed 9 5 0;bleed 9 5 0;plan 4;",
                x -> x.alter(empty, 2, 4));
            Edge.stays("cell " + c + " has too little", made, x -> x.bridge(1, 0), c);
            Edge.stays("how much", made, x -> x.bridge(1, 1), 5);
        }
        Due.sentence("22: it neither TAKES nor GIVES");
        // the full pump's rest would fill cell 1, which then would stop the second current up
        Edge.Made takes = Edge.of("pump 3 3 0;plain 12 0 0;bleed 20 0 0;plan 15 15 0;");
        Edge.stays("TAKES", takes, x -> x.bridge(3, 0), 0);
        Edge.stays("how much", takes, x -> x.bridge(3, 1), 9);
        // the pump would draw what one of the others needs for the second current down
        Edge.Made gives = Edge.of("plain 20 10 0;plain 20 10 0;pump 9 0 0;plan 4;");
        Edge.stays("GIVES", gives, x -> x.bridge(2, 0), 2);
        Edge.stays("how much", gives, x -> x.bridge(2, 1), 10);
        Edge.stays("in one hour as much", gives, x -> x.bridge(1, 0), Edge.NONE);
        Due.sentence("22: nor is it POOREST, RICHEST");
        // with cell 0 bridged, cell 2 is the poorest for the pump and has 9 for the second hour
        Edge.Made poorest = Edge.of("plain 9 0 0;pump 9 9 0;plain 20 1 0;plan 13 0;");
        Edge.stays("POOREST", poorest, x -> x.bridge(2, 0), 0);
        Edge.stays("how much", poorest, x -> x.bridge(2, 1), 9);
        // with cell 0 bridged the pump would empty cell 1: better the pump itself
        Edge.Made richest = Edge.of("plain 30 20 0;plain 30 18 0;pump 9 0 0;plan 0;");
        Edge.stays("RICHEST", richest, x -> x.bridge(2, 0), 2);
    }

    private static void bridgesOfSeveral() {
        Due.sentence("22: so that most is DONE, more than as it is, of several the first. NONE: none");
        Edge.stays("as much", Edge.of("bleed 9 9 0;bleed 9 9 0;plan 4;"), x -> x.bridge(1, 0), Edge.NONE);
        Edge.stays("two that stop it", Edge.of("bleed 9 4 0;bleed 9 4 0;plan 4;"), x -> x.bridge(1, 0), Edge.NONE);
        Edge.stays("one that stops it", Edge.of("bleed 9 5 0;bleed 9 4 0;plan 4;"), x -> x.bridge(1, 0), 1);
        // with either away the pump, or the plain one alone, has enough
        Edge.stays("of several the first", Edge.of("plain 9 3 0;pump 9 0 0;plan 4;"), x -> x.bridge(1, 0), 0);
        // cell 0 away: one hour more; cell 1 away: two
        Edge.Made most = Edge.of("bleed 9 2 0;bleed 9 1 0;plan 8;");
        Edge.stays("most", most, x -> x.bridge(2, 0), 1);
        Edge.stays("how much", most, x -> x.bridge(2, 1), 2);
        Edge.stays("in one hour as much", most, x -> x.bridge(1, 0), Edge.NONE);
    }
}
