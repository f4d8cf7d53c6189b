/** The edges of promises 31 to 37, of IMAGES, SHEETS and their FAULTS, a sentence at a time. */
public final class SheetsEdgesTest {
    private static final int NULL = -11, INDEX = -12, SIZE = -14;

    public static void main(String[] args) {
        keeps();
        keptAll();
        backs();
        backsToNone();
        sheetsAsked();
        sheetSizes();
        newRows();
        laysAsked();
        laysOnPlaces();
        lowestBits();
        readsAsked();
        readsOfNone();
        readsOfAll();
        readsFromPlaces();
        readsOneBehindAnother();
        readsTorn();
        readsRefused();
        firstMet();
        faultsOfSheets();
        tornStays();
        counts();
        countsOfOthers();
        Due.finish();
    }

    private static void keeps() {
        Due.sentence("31: IMAGE k (0, 1): whether there was one (1, 0). BAD");
        for (int k : new int[] {-1, 2, Edge.LEAST, Edge.MOST}) {
            Edge.stays("keep(" + k + ")", x -> x.keep(k), Edge.BAD);
        }
        for (int k = 0; k <= 1; k++) {
            CellsInRow x = Due.told("plan 5;");
            Due.is("keep(" + k + ")", x.keep(k), 0);
            Due.is("images", x.count(1), 1);
            Due.is("keep(" + k + ") again", x.keep(k), 1);
            Due.is("images", x.count(1), 1);
            Due.is("back to the other", x.back(1 - k), Edge.STATE);
            Due.is("keep the other", x.keep(1 - k), 0);
            Due.is("images", x.count(1), 2);
            Due.is("keep(" + k + ") in rich", Edge.rich().keep(k), 1);
        }
    }

    private static void keptAll() {
        Due.sentence("31: IMAGE k is CELLS, SIGNS (all of them), HOUR, STOPS, WASTE, DONE, what was SEEN");
        // what is kept now comes back, whatever was done to it; the images of rich() are told by all() as well
        Edge.Made kept = () -> {
            CellsInRow x = Edge.rich();
            x.keep(1);
            return x;
        };
        for (Edge.Call change : new Edge.Call[] {x -> x.alter(0, 0, 2), x -> x.alter(1, 1, 99), x -> x.alter(2, 2, 9),
            x -> x.alter(2, 3, 0), x -> x.set(0, 18), x -> x.set(5, 1), x -> x.add(4), x -> x.cut(5), x -> x.cut(0),
            x -> x.hours(7), x -> x.send(0), x -> x.send(18), x -> x.send(8), x -> x.forget(0), x -> x.see(0, 0, 0),
            x -> x.back(0), x -> x.forget(0) + x.see(2, 0, 2), x -> x.forget(0) + x.see(1, 1, 2),
            x -> x.forget(0) + x.see(1, 0, 3)}) {
            Edge.undone("a change and back(1)", kept, x -> 0 * change.on(x), 0, x -> x.back(1));
        }
        CellsInRow x = Due.told("plan 0 1 2 3 4 5 6 7 8 9 10 11 12 13 14 15;");
        x.keep(0);
        x.cut(3);
        x.set(0, 18);
        Due.is("back(0)", x.back(0), 0);
        for (int i = 0; i < 16; i++) {
            Due.is("sign(" + i + ")", x.sign(i), i);
        }
    }

    private static void backs() {
        Due.sentence("32: All is as IMAGE k: HOUR. BAD");
        for (int k : new int[] {-1, 2, Edge.LEAST, Edge.MOST}) {
            Edge.stays("back(" + k + ")", x -> x.back(k), Edge.BAD);
        }
        Due.is("back(0)", Edge.rich().back(0), 5);
        Due.is("back(1)", Edge.rich().back(1), 6);
        CellsInRow x = Edge.rich();
        x.back(0);
        int[] rules = {3, 5, 5, 1, 7, 10, 14, 0};
        for (int what = 0; what <= 7; what++) {
            Due.is("rule(" + what + ") of image 0", x.rule(what), rules[what]);
        }
        Due.is("seen", x.count(0), 2);
        Due.sentence("32: the image stays, and so do THE TAPE, SHEETS, what fault() and torn() tell");
        Due.is("bytes", x.count(2), Edge.BYTES);
        Due.is("places", x.count(3), 6);
        Due.is("fault()", x.fault(), 2);
        Due.is("torn()", x.torn(), 2);
        x.hours(3);
        Due.is("back(0) again", x.back(0), 5);
        Due.is("images", x.count(1), 2);
    }

    private static void backsToNone() {
        Due.sentence("32: STATE: there is none");
        for (int k = 0; k <= 1; k++) {
            int i = k;
            Edge.stays("back(" + k + ")", Edge.of("plain 9 5 0;plan 8;", x -> x.hours(2)), x -> x.back(i), Edge.STATE);
            Edge.Made other = Edge.of("plain 9 5 0;plan 8;", x -> x.keep(1 - i), x -> x.hours(2));
            Edge.stays("back(" + k + ") with the other", other, x -> x.back(i), Edge.STATE);
            Edge.stays("back(2) with one", other, x -> x.back(2), Edge.BAD);
        }
    }

    private static void sheetsAsked() {
        Due.sentence("33: BAD: also n above 40. SHEETS 0 to 3; lane 0, 1, 2");
        for (int n : new int[] {-1, 0, 40, 41}) {
            for (int k : new int[] {-1, 4, Edge.LEAST, Edge.MOST}) {
                Edge.stays("sheet(" + k + ", 0, " + n + ")", x -> x.sheet(k, 0, n), Edge.BAD);
            }
            for (int lane : new int[] {-1, 3, Edge.LEAST, Edge.MOST}) {
                Edge.stays("sheet(0, " + lane + ", " + n + ")", x -> x.sheet(0, lane, n), Edge.BAD);
            }
        }
        for (int n : new int[] {41, 42, Edge.MOST}) {
            Edge.stays("sheet(0, 0, " + n + ")", x -> x.sheet(0, 0, n), Edge.BAD);
            Edge.stays("sheet(3, 2, " + n + ")", x -> x.sheet(3, 2, n), Edge.BAD);
        }
        Due.sentence("33: -10 - 4. FAULT 4 SIZE (below 0)");
        for (int n : new int[] {-1, -2, -40, -41, Edge.LEAST}) {
            Edge.stays("sheet(0, 0, " + n + ")", x -> x.sheet(0, 0, n), SIZE);
            Edge.stays("sheet(3, 2, " + n + ")", x -> x.sheet(3, 2, n), SIZE);
        }
    }

    private static void sheetSizes() {
        Due.sentence("33: A SHEET is a new row: 1. SHEETS 0 to 3 with 0 to 40 PLACES, of lane 0, 1, 2");
        for (int k = 0; k < 4; k++) {
            for (int lane = 0; lane < 3; lane++) {
                for (int n : new int[] {0, 1, 39, 40}) {
                    CellsInRow x = Edge.rich();
                    String call = "sheet(" + k + ", " + lane + ", " + n + ")";
                    Due.is(call, x.sheet(k, lane, n), 1);
                    Due.is(call + ": places of sheet 0", x.count(3), k == 0 ? n : 6);
                    Due.is(call + ": its last place", x.lay(k, n - 1, 1), n == 0 ? INDEX : 1);
                    Due.is(call + ": behind its last", x.lay(k, n, 1), INDEX);
                    Due.is(call + ": of its lane", x.read(k, lane, n, 1) * 10 + x.torn(), 2);
                    Due.is(call + ": of another", x.read(k, (lane + 1) % 3, 0, 1) * 10 + x.torn(), 3);
                }
            }
        }
        Edge.undone("sheet(3, 0, 2) behind another", Edge.of("plan 5;", x -> x.sheet(3, 0, 2)), x -> x.sheet(3, 1, 40), 1,
            x -> x.sheet(3, 0, 2));
    }

    private static void newRows() {
        Due.sentence("33: a new row of PLACES 0");
        for (int lane = 0; lane < 3; lane++) {
            int of = lane;
            CellsInRow x = Due.told("plan 5 5;");
            x.sheet(0, lane, 40);
            for (int i = 0; i < 40; i++) {
                x.lay(0, i, 1);
            }
            Due.is("laid", x.read(0, lane, 0, 20), 20);
            Due.is("sign(1)", x.sign(1), 1);
            Due.is("the same once more", x.sheet(0, of, 40), 1);
            for (int i = 0; i < 20; i++) {
                x.set(0, 5);
                Due.is("places " + 2 * i + ", " + (2 * i + 1), x.read(0, lane, 2 * i, 1), 1);
                Due.is("are 0, 0", x.sign(0), 0);
            }
        }
        Due.sentence("33: a SHEET alone is new");
        CellsInRow x = Due.told("plan 5 5;");
        Edge.lay(x, 0, 0, 1, 7);
        Edge.lay(x, 1, 0, 1, 8);
        x.sheet(0, 0, 2);
        Due.is("the other", x.read(1, 0, 0, 1), 1);
        Due.is("sign(1)", x.sign(1), 8);
    }

    private static void laysAsked() {
        Due.sentence("34: BAD: k; -10 less the FAULT: NULL, INDEX");
        for (int k : new int[] {-1, 4, Edge.LEAST, Edge.MOST}) {
            Edge.stays("lay(" + k + ", 0, 1)", x -> x.lay(k, 0, 1), Edge.BAD);
            Edge.stays("lay(" + k + ", -1, 1)", x -> x.lay(k, -1, 1), Edge.BAD);
        }
        for (int i : new int[] {-1, 0, 39, 40, Edge.LEAST, Edge.MOST}) {
            Edge.stays("lay(3, " + i + ", 1)", x -> x.lay(3, i, 1), NULL);
        }
        int[] places = {6, 4, 5};
        for (int k = 0; k < 3; k++) {
            int sheet = k;
            for (int i : new int[] {-1, places[k], places[k] + 1, 40, Edge.LEAST, Edge.MOST}) {
                Edge.stays("lay(" + k + ", " + i + ", 1)", x -> x.lay(sheet, i, 1), INDEX);
            }
        }
        Edge.Made none = Edge.of("plan 5;", x -> x.sheet(0, 0, 0));
        for (int i : new int[] {-1, 0, 1}) {
            Edge.stays("lay(0, " + i + ", 1) on no places", none, x -> x.lay(0, i, 1), INDEX);
        }
    }

    private static void laysOnPlaces() {
        Due.sentence("34: PLACE i of a SHEET becomes v: 1");
        int[][] laid = {{1, 17, 0, 16, 4, 1}, {2, 12, 5, 2}, {3, 11, 0, 0, 1}};
        for (int k = 0; k < 3; k++) {
            int sheet = k;
            for (int i : new int[] {0, 1, laid[k].length - 1}) {
                int was = laid[k][i];
                Edge.undone("lay(" + k + ", " + i + ", 6)", Edge::rich, x -> x.lay(sheet, i, 6), 1, x -> x.lay(sheet, i, was));
            }
        }
        CellsInRow x = Due.told("plan 5 5;");
        x.sheet(0, 0, 40);
        Due.is("lay(0, 38, 1)", x.lay(0, 38, 1), 1);
        Due.is("lay(0, 39, 7)", x.lay(0, 39, 7), 1);
        Due.is("lay(0, 40, 7)", x.lay(0, 40, 7), INDEX);
        Due.is("read(0, 0, 38, 1)", x.read(0, 0, 38, 1), 1);
        Due.is("sign(1)", x.sign(1), 7);
    }

    private static void lowestBits() {
        Due.sentence("34: becomes v (its lowest bits). BYTES (lane 0), SHORTS (1), INTS (2)");
        int[] laid = {0, 1, 18, 19, 127, 128, 237, 238, 255, 256, 257, 274, 275, 32767, 32768, 65535, 65536, 65554, 65555,
            65792, 16777216, -1, -2, -128, -129, -238, -255, -256, -257, -32768, -65518, -65536, Edge.LEAST, Edge.LEAST + 18,
            Edge.MOST, Edge.MOST - 1};
        for (int lane = 0; lane < 3; lane++) {
            for (int v : laid) {
                // as the machine narrows it, told without the machine's own narrowing
                long bits = lane == 0 ? 256 : lane == 1 ? 65536 : 1L << 32;
                long low = Math.floorMod((long) v, bits);
                long is = low >= bits / 2 ? low - bits : low;
                CellsInRow x = Due.told("plan 5 5;");
                x.sheet(0, lane, 4);
                Due.is("lay(0, 1, " + v + ")", x.lay(0, 1, v), 1);
                boolean sign = is >= 0 && is <= 18;
                Due.is("lane " + lane + ": " + v + " as a sign's value", x.read(0, lane, 0, 1), sign ? 1 : -20);
                Due.is("lane " + lane + ": sign(0) by " + v, x.sign(0), sign ? is : 5);
                x.lay(0, 2, v);
                boolean which = is == 0 || is == 1;
                Due.is("lane " + lane + ": " + v + " as which sign", x.read(0, lane, 2, 1), which ? 1 : -20);
                Due.is("lane " + lane + ": sign(1) by " + v, x.sign(1), is == 1 ? 0 : 5);
            }
        }
    }

    private static void readsAsked() {
        Due.sentence("35: n (0 to 20). BAD: k, lane, n");
        for (int k : new int[] {-1, 4, Edge.LEAST, Edge.MOST}) {
            Edge.stays("read(" + k + ", 0, 0, 1)", x -> x.read(k, 0, 0, 1), Edge.BAD);
            Edge.stays("read(" + k + ", 0, 0, 0)", x -> x.read(k, 0, 0, 0), Edge.BAD);
        }
        for (int lane : new int[] {-1, 3, Edge.LEAST, Edge.MOST}) {
            Edge.stays("read(0, " + lane + ", 0, 1)", x -> x.read(0, lane, 0, 1), Edge.BAD);
            Edge.stays("read(0, " + lane + ", 0, 0)", x -> x.read(0, lane, 0, 0), Edge.BAD);
            Edge.stays("read(3, " + lane + ", 0, 1) of nothing", x -> x.read(3, lane, 0, 1), Edge.BAD);
        }
        for (int n : new int[] {-1, 21, 22, Edge.LEAST, Edge.MOST}) {
            for (int f : new int[] {0, -1, 99}) {
                Edge.stays("read(0, 0, " + f + ", " + n + ")", x -> x.read(0, 0, f, n), Edge.BAD);
                Edge.stays("read(0, 1, " + f + ", " + n + ")", x -> x.read(0, 1, f, n), Edge.BAD);
                Edge.stays("read(3, 0, " + f + ", " + n + ")", x -> x.read(3, 0, f, n), Edge.BAD);
            }
        }
    }

    private static void readsOfNone() {
        Due.sentence("35: n (0 to 20) times. 36: The FAULT of the latest read() that came to an end; 0");
        for (int k = 0; k < 4; k++) {
            for (int lane = 0; lane < 3; lane++) {
                for (int f : new int[] {0, -1, 5, 6, 40, Edge.LEAST, Edge.MOST}) {
                    CellsInRow x = Edge.rich();
                    Due.is("read(" + k + ", " + lane + ", " + f + ", 0)", x.read(k, lane, f, 0), 0);
                    Due.is("torn()", x.torn(), 0);
                    Due.is("signs", x.count(5), 35);
                }
            }
        }
    }

    private static void readsOfAll() {
        Due.sentence("35: n (0 to 20) times, two PLACES each from PLACE f on: how many came");
        for (int lane = 0; lane < 3; lane++) {
            for (int n : new int[] {0, 1, 2, 19, 20}) {
                CellsInRow x = Due.told("plan 5 5;");
                x.sheet(1, lane, 40);
                for (int i = 0; i < 20; i++) {
                    x.lay(1, 2 * i, i % 2);
                    x.lay(1, 2 * i + 1, i % 19);
                }
                Due.is("read(1, " + lane + ", 0, " + n + ")", x.read(1, lane, 0, n), n);
                Due.is("torn()", x.torn(), 0);
                int lastEven = n == 0 ? 5 : (n - 1) / 2 * 2 % 19;
                int lastOdd = n < 2 ? 5 : ((n / 2 - 1) * 2 + 1) % 19;
                Due.is("sign(0) of " + n, x.sign(0), lastEven);
                Due.is("sign(1) of " + n, x.sign(1), lastOdd);
            }
        }
    }

    private static void readsFromPlaces() {
        Due.sentence("35: from PLACE f on. What the machine refuses: those that were whole ahead came. FAULT 2 INDEX");
        int[][] due = {{0, 20, 20, 0}, {1, 19, 19, 0}, {1, 20, 19, 2}, {2, 19, 19, 0}, {2, 20, 19, 2}, {36, 2, 2, 0}, {37, 1, 1, 0},
            {37, 2, 1, 2}, {38, 1, 1, 0}, {38, 2, 1, 2}, {39, 1, 0, 2}, {39, 0, 0, 0}, {40, 1, 0, 2}, {40, 0, 0, 0}, {41, 1, 0, 2},
            {-1, 1, 0, 2}, {-1, 20, 0, 2}, {-2, 2, 0, 2}, {-2, 0, 0, 0}, {Edge.MOST, 1, 0, 2}, {Edge.MOST - 1, 2, 0, 2},
            {Edge.MOST - 40, 20, 0, 2}, {Edge.LEAST, 1, 0, 2}, {Edge.LEAST + 1, 20, 0, 2}};
        for (int lane = 0; lane < 3; lane++) {
            for (int[] d : due) {
                CellsInRow x = Due.told("plan 5;");
                x.sheet(2, lane, 40);
                String call = "read(2, " + lane + ", " + d[0] + ", " + d[1] + ")";
                Due.is(call, x.read(2, lane, d[0], d[1]), d[2]);
                Due.is(call + ": torn()", x.torn(), d[3]);
                Due.is(call + ": sign(0)", x.sign(0), d[2] > 0 ? 0 : 5);
            }
        }
        for (int places = 0; places <= 4; places++) {
            CellsInRow x = Due.told("plan 5;");
            x.sheet(0, 0, places);
            Due.is("one of " + places + " places", x.read(0, 0, 0, 1), places < 2 ? 0 : 1);
            Due.is("torn()", x.torn(), places < 2 ? 2 : 0);
            Due.is("two of " + places + " places", x.read(0, 0, 0, 2), places / 2);
            Due.is("torn()", x.torn(), places < 4 ? 2 : 0);
        }
    }

    private static CellsInRow laid(int... places) {
        CellsInRow x = Due.told("plan 5 6 7;");
        Edge.lay(x, 0, 1, places);
        x.read(0, 0, 0, 1);
        return x;
    }

    private static void readIs(String when, CellsInRow x, int n, int answer, int torn, int signs) {
        Due.is(when, x.read(0, 1, 0, n), answer);
        Due.is(when + ": torn()", x.torn(), torn);
        Due.is(when + ": signs", x.sign(0) * 10000 + x.sign(1) * 100 + x.sign(2), signs);
    }

    private static void readsOneBehindAnother() {
        Due.sentence("35: which SIGN, what it is to be (as told), one behind another as by set()");
        readIs("the later stays", laid(0, 10, 0, 11), 2, 2, 0, 110607);
        readIs("but for one", laid(0, 10, 0, 11), 1, 1, 0, 100607);
        readIs("the last sign", laid(2, 18), 1, 1, 0, 50618);
        readIs("behind the last", laid(3, 18), 1, -20, 3, 50607);
        readIs("the first sign", laid(0, 0), 1, 1, 0, 607);
        readIs("ahead of the first", laid(-1, 0), 1, -20, 3, 50607);
        readIs("19", laid(2, 19), 1, -20, 3, 50607);
        readIs("-1", laid(2, -1), 1, -20, 3, 50607);
        CellsInRow none = Due.told("pump 9 0 0;");
        Edge.lay(none, 0, 0, 0, 0);
        Due.is("no signs", none.read(0, 0, 0, 1), -20);
    }

    private static void readsTorn() {
        Due.sentence("35: What the machine refuses: those that were whole ahead came (its FAULT is asked by torn())");
        readIs("none is whole", laid(1), 1, 0, 2, 50607);
        readIs("one is whole", laid(1, 10), 2, 1, 2, 51007);
        readIs("one is whole, and half of one", laid(1, 10, 2), 2, 1, 2, 51007);
        readIs("two are whole", laid(1, 10, 2, 11), 3, 2, 2, 51011);
        readIs("two are whole, and half of one", laid(1, 10, 2, 11, 0), 20, 2, 2, 51011);
        // what is not whole is not asked of set()
        readIs("half of one that would be refused", laid(1, 10, 3), 2, 1, 2, 51007);
        readIs("half of one that would be refused", laid(3), 1, 0, 2, 50607);
    }

    private static void readsRefused() {
        Due.sentence("35: -20 less i: the i-th, whole, is refused by set(): then none came");
        for (int i = 0; i < 20; i++) {
            int at = i;
            for (int way = 0; way < 4; way++) {
                int place = 2 * i + (way < 2 ? 0 : 1);
                int v = way == 0 ? 1 : way == 1 ? -1 : way == 2 ? 19 : -1;
                Edge.Made made = Edge.of("plan 5;", x -> x.sheet(2, 1, 40), x -> x.lay(2, place, v), x -> x.read(2, 0, 0, 1));
                Edge.stays("the " + i + "th, " + v + " at " + place, made, x -> x.read(2, 1, 0, 20), -20 - at);
                Edge.stays("the " + i + "th, the last read", made, x -> x.read(2, 1, 0, at + 1), -20 - at);
                CellsInRow x = made.anew();
                Due.is("those ahead of the " + i + "th", x.read(2, 1, 0, i), i);
                Due.is("torn()", x.torn(), 0);
            }
        }
    }

    private static void firstMet() {
        Due.sentence("35: the first met");
        readIs("refused ahead of what is torn", laid(1, 10, 3, 0, 1), 3, -21, 3, 50607);
        readIs("refused twice", laid(1, 10, 3, 0, 1, 19), 3, -21, 3, 50607);
        readIs("refused at first", laid(0, 19, 3, 0), 2, -20, 3, 50607);
        readIs("torn ahead of what would be refused", laid(1, 10, 3), 3, 1, 2, 51007);
        // another lane, or nothing, is found ahead of what would be refused
        CellsInRow x = laid(3, 19);
        Due.is("as of another lane", x.read(0, 2, 0, 1), 0);
        Due.is("torn()", x.torn(), 3);
        Due.is("as of its own", x.read(0, 1, 0, 1), -20);
    }

    private static void faultsOfSheets() {
        Due.sentence("A FAULT is what the machine finds: 1 NULL (nothing), 2 INDEX, 3 CAST (another lane)");
        for (int k = 0; k < 4; k++) {
            for (int lane = 0; lane < 3; lane++) {
                for (int f : new int[] {0, -1, 99}) {
                    CellsInRow x = Edge.rich();
                    x.read(k, lane, 0, 0);
                    String call = "read(" + k + ", " + lane + ", " + f + ", 1)";
                    boolean reads = k == lane && f == 0;
                    Due.is(call, x.read(k, lane, f, 1), reads ? 1 : 0);
                    Due.is(call + ": torn()", x.torn(), k == 3 ? 1 : k != lane ? 3 : reads ? 0 : 2);
                }
            }
        }
    }

    private static void tornStays() {
        Due.sentence("36: The FAULT of the latest read() that came to an end; 0");
        Due.is("ahead of all", new CellsInRow().torn(), 0);
        for (int fault = 0; fault <= 3; fault++) {
            int f = fault;
            Edge.Made made = Edge.of("plan 5;", x -> x.sheet(0, 0, 2), x -> x.sheet(1, 0, 2), x -> x.lay(1, 1, 19),
                x -> f == 1 ? x.read(3, 0, 0, 1) : f == 2 ? x.read(0, 0, 2, 1) : f == 3 ? x.read(0, 1, 0, 1) : x.read(0, 0, 0, 1));
            Edge.stays("torn()", made, CellsInRow::torn, fault);
            Edge.stays("BAD: n", made, x -> x.read(0, 0, 0, 21) + x.torn(), Edge.BAD + fault);
            Edge.stays("BAD: lane", made, x -> x.read(0, 3, 0, 1) + x.torn(), Edge.BAD + fault);
            Edge.stays("BAD: k", made, x -> x.read(4, 0, 0, 1) + x.torn(), Edge.BAD + fault);
            Edge.stays("refused by set()", made, x -> x.read(1, 0, 0, 1) + x.torn(), -20 + fault);
            Edge.stays("a fault of lay()", made, x -> x.lay(2, 0, 0) + x.torn(), NULL + fault);
            Edge.stays("a fault of sheet()", made, x -> x.sheet(0, 0, -1) + x.torn(), SIZE + fault);
            CellsInRow x = made.anew();
            Due.is("read", x.read(0, 0, 0, 1), 1);
            Due.is("torn() of the latest", x.torn(), 0);
        }
    }

    private static void counts() {
        Due.sentence("37: How many: 0 SEEN .. 5 SIGNS as told, summed. BAD");
        for (int what : new int[] {-1, 6, Edge.LEAST, Edge.MOST}) {
            Edge.stays("count(" + what + ")", x -> x.count(what), Edge.BAD);
        }
        int[] counts = {Edge.SEEN, 2, Edge.BYTES, 6, 59, 35};
        for (int what = 0; what <= 5; what++) {
            int w = what;
            Edge.stays("count(" + what + ")", x -> x.count(w), counts[what]);
        }
    }

    private static void countsOfOthers() {
        Due.sentence("37: 3 PLACES of SHEET 0 (NONE: nothing)");
        CellsInRow x = new CellsInRow();
        for (int k = 1; k < 4; k++) {
            x.sheet(k, 0, 7);
            Due.is("nothing, with sheet " + k, x.count(3), Edge.NONE);
        }
        for (int n : new int[] {0, 1, 39, 40}) {
            x.sheet(0, 2, n);
            Due.is("places", x.count(3), n);
        }
        x.sheet(0, 2, 41);
        x.sheet(0, 2, -1);
        Due.is("places, as before", x.count(3), 40);
        Due.sentence("37: 4 ROOMS of all, 5 SIGNS as told, summed: the least and the most");
        Due.is("no rooms", x.count(4), 0);
        Due.is("no signs", x.count(5), 0);
        x = Due.told("plain 99 0 0;plain 99 0 0;plain 99 0 0;plain 99 0 0;plain 99 0 0;");
        for (int i = 0; i < 16; i++) {
            x.add(18);
        }
        Due.is("rooms", x.count(4), 495);
        Due.is("signs", x.count(5), 288);
        x.cut(1);
        Due.is("one sign", x.count(5), 18);
        x.set(0, 0);
        Due.is("one sign of 0", x.count(5), 0);
    }
}
