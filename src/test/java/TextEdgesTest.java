import java.util.List;

/** The edges of promises 1 to 8, and of the text's own words, a sentence at a time. */
public final class TextEdgesTest {
    private static final String FIVE = "plain 1 0 0;bleed 1 0 0;share 1 0 0;pump 1 0 0;plain 1 0 0;";
    private static final String FIFTEEN = "plan 1 1 1 1 1 1 1 1 1 1 1 1 1 1 1";

    public static void main(String[] args) {
        newObject();
        newObjectRefuses();
        bytes();
        fullTape();
        ends();
        endsOfOtherTapes();
        lines();
        tapeIsEmptyThen();
        everyByteAlone();
        everyByteBehindNumbers();
        tokensAsLongAsMayBe();
        figures();
        rooms();
        charges();
        leaks();
        signValues();
        manySigns();
        seventeenth();
        manyCells();
        plans();
        namesOfLines();
        theEnd();
        firstMet();
        textTaken();
        fewerThanThereWere();
        faults();
        rules();
        units();
        signs();
        lastCalls();
        Due.finish();
    }

    private static void taken(String text, int lines) {
        CellsInRow x = new CellsInRow();
        Due.is("text of '" + text + "'", Due.tell(x, text), lines);
        Due.is("fault of '" + text + "'", x.fault(), 0);
    }

    /** The text has its fault at that place; but for fault() all is as it was, and the tape is empty. */
    private static void faulty(String text, int place, int fault) {
        CellsInRow x = Edge.rich();
        x.end(0);
        Due.is("text of '" + text + "'", Due.tell(x, text), -10 - place);
        Due.is("fault of '" + text + "'", x.fault(), fault);
        Due.is("bytes behind '" + text + "'", x.count(2), 0);
        CellsInRow was = Edge.rich();
        was.end(0);
        List<String> all = Edge.all(x);
        List<String> before = Edge.all(was);
        Edge.alike("text of '" + text + "'", all.subList(1, all.size()), before.subList(1, before.size()));
    }

    private static String times(int n, String s) {
        return s.repeat(n);
    }

    private static void newObject() {
        Due.sentence("1: No CELLS, no SIGNS; SHEETS of nothing. HOUR, STOPS, WASTE, DONE: 0 at first");
        CellsInRow x = new CellsInRow();
        for (int what = 0; what <= 7; what++) {
            Due.is("rule(" + what + ")", x.rule(what), 0);
        }
        int[] counts = {0, 0, 0, Edge.NONE, 0, 0};
        for (int what = 0; what <= 5; what++) {
            Due.is("count(" + what + ")", x.count(what), counts[what]);
        }
        Due.is("fault()", x.fault(), 0);
        Due.is("torn()", x.torn(), 0);
        for (int k = 0; k < 4; k++) {
            Due.is("lay(" + k + ", 0, 0)", x.lay(k, 0, 0), -11);
            for (int lane = 0; lane < 3; lane++) {
                Due.is("read(" + k + ", " + lane + ", 0, 1)", x.read(k, lane, 0, 1), 0);
                Due.is("torn() of sheet " + k, x.torn(), 1);
            }
        }
        Due.is("text()", x.text(), 0);
        Due.is("end(0)", x.end(0), 0);
        Due.is("cut(0)", x.cut(0), 0);
        Due.is("forget(0)", x.forget(0), 0);
        Due.is("keep(0)", x.keep(0), 0);
        Due.is("keep(1)", x.keep(1), 0);
    }

    private static void newObjectRefuses() {
        Due.sentence("1: No CELLS, no SIGNS");
        Edge.Made made = CellsInRow::new;
        Edge.stays("unit(0, 0)", made, x -> x.unit(0, 0), Edge.BAD);
        Edge.stays("sign(0)", made, x -> x.sign(0), Edge.BAD);
        Edge.stays("alter(0, 0, 0)", made, x -> x.alter(0, 0, 0), Edge.BAD);
        Edge.stays("set(0, 0)", made, x -> x.set(0, 0), Edge.BAD);
        Edge.stays("cut(1)", made, x -> x.cut(1), Edge.BAD);
        Edge.stays("ahead(0, 0)", made, x -> x.ahead(0, 0), Edge.BAD);
        Edge.stays("kind(0, 0, 0)", made, x -> x.kind(0, 0, 0), Edge.BAD);
        Edge.stays("begin(0, 0, 0)", made, x -> x.begin(0, 0, 0), Edge.BAD);
        Edge.stays("need(0, 0)", made, x -> x.need(0, 0), Edge.BAD);
        Edge.stays("see(0, 0, 0)", made, x -> x.see(0, 0, 0), Edge.BAD);
        Edge.stays("kinds(0)", made, x -> x.kinds(0), Edge.BAD);
        Edge.stays("leaks(0)", made, x -> x.leaks(0), Edge.BAD);
        Edge.stays("ask(0, 0)", made, x -> x.ask(0, 0), Edge.BAD);
        Edge.stays("drift(1, 1, 0)", made, x -> x.drift(1, 1, 0), Edge.STATE);
        Edge.stays("back(0)", made, x -> x.back(0), Edge.STATE);
        Edge.stays("back(1)", made, x -> x.back(1), Edge.STATE);
        Edge.stays("when()", made, CellsInRow::when, Edge.NONE);
        Edge.stays("swap(200, 0)", made, x -> x.swap(200, 0), Edge.NONE);
        Edge.stays("bridge(200, 0)", made, x -> x.bridge(200, 0), Edge.NONE);
        Edge.stays("send(0)", made, x -> x.send(0), 0);
        Edge.stays("send(18)", made, x -> x.send(18), 0);
        Edge.stays("runs(200, 0)", made, x -> x.runs(200, 0), 0);
        Edge.stays("runs(200, 3)", made, x -> x.runs(200, 3), 0);
        Edge.stays("luck(0, 8, 0)", made, x -> x.luck(0, 8, 0), 1);
        Edge.stays("mean(0, 8, 0)", made, x -> x.mean(0, 8, 0), 0);
        Edge.stays("mean(0, 8, 1)", made, x -> x.mean(0, 8, 1), 1);
    }

    private static void bytes() {
        Due.sentence("2: A byte (0 to 127) comes behind THE TAPE: how many it has. BAD");
        for (int c : new int[] {-1, 128, 256, -128, Edge.LEAST, Edge.MOST}) {
            Edge.stays("feed(" + c + ")", x -> x.feed(c), Edge.BAD);
        }
        for (int c : new int[] {0, 1, 126, 127}) {
            CellsInRow x = Edge.rich();
            Due.is("feed(" + c + ")", x.feed(c), Edge.BYTES + 1);
            Due.is("bytes", x.count(2), Edge.BYTES + 1);
            Due.is("first feed(" + c + ")", new CellsInRow().feed(c), 1);
        }
        CellsInRow x = new CellsInRow();
        Edge.feed(x, "plan 1");
        x.feed('2');
        x.feed(';');
        Due.is("it comes behind", x.text() * 100 + x.sign(0), 112);
    }

    private static CellsInRow richWithFullTape() {
        CellsInRow x = Edge.rich();
        for (int i = Edge.BYTES; i < 160; i++) {
            x.feed(' ');
        }
        return x;
    }

    private static void fullTape() {
        Due.sentence("2: FULL: more than 160");
        CellsInRow x = new CellsInRow();
        Edge.feed(x, "plan 7" + times(152, " "));
        Due.is("the 159th", x.feed(' '), 159);
        Due.is("the 160th", x.feed(';'), 160);
        Due.is("the 161st", x.feed('#'), Edge.FULL);
        Due.is("the 161st again", x.feed(';'), Edge.FULL);
        Due.is("text of 160", x.text(), 1);
        Due.is("its sign", x.sign(0), 7);
        Due.is("the first of the next", x.feed(' '), 1);
        for (int c : new int[] {0, 32, 127}) {
            Edge.stays("feed(" + c + ") on 160", TextEdgesTest::richWithFullTape, y -> y.feed(c), Edge.FULL);
        }
        Due.sentence("answers: the first that fits");
        for (int c : new int[] {-1, 128}) {
            Edge.stays("feed(" + c + ") on 160", TextEdgesTest::richWithFullTape, y -> y.feed(c), Edge.BAD);
        }
    }

    private static void ends() {
        Due.sentence("3: THE TAPE keeps its first n bytes: how many it had. BAD");
        for (int n : new int[] {-1, Edge.BYTES + 1, 159, 160, 161, Edge.LEAST, Edge.MOST}) {
            Edge.stays("end(" + n + ")", x -> x.end(n), Edge.BAD);
        }
        Edge.stays("end(9) of 9", x -> x.end(Edge.BYTES), Edge.BYTES);
        for (int n : new int[] {0, 1, Edge.BYTES - 1}) {
            CellsInRow x = Edge.rich();
            Due.is("end(" + n + ")", x.end(n), Edge.BYTES);
            Due.is("bytes", x.count(2), n);
            Due.is("end(" + (n + 1) + ") then", x.end(n + 1), Edge.BAD);
            Due.is("feed then", x.feed(' '), n + 1);
        }
        CellsInRow x = new CellsInRow();
        Edge.feed(x, "plan 3;;");
        x.end(7);
        Due.is("text of its first 7", x.text(), 1);
        Edge.feed(x, "plan 18;");
        x.end(6);
        x.feed(';');
        Due.is("text of its first 6 and one more", x.text() * 100 + x.sign(0), 101);
    }

    private static void endsOfOtherTapes() {
        Due.sentence("3: THE TAPE keeps its first n bytes; THE TAPE has 160 bytes");
        Edge.Made empty = () -> {
            CellsInRow x = Edge.rich();
            x.end(0);
            return x;
        };
        Edge.stays("end(0) of 0", empty, x -> x.end(0), 0);
        Edge.stays("end(1) of 0", empty, x -> x.end(1), Edge.BAD);
        Edge.stays("end(-1) of 0", empty, x -> x.end(-1), Edge.BAD);
        Edge.stays("end(160) of 160", TextEdgesTest::richWithFullTape, x -> x.end(160), 160);
        Edge.stays("end(161) of 160", TextEdgesTest::richWithFullTape, x -> x.end(161), Edge.BAD);
        CellsInRow x = richWithFullTape();
        Due.is("end(159) of 160", x.end(159), 160);
        Due.is("end(160) of 159", x.end(160), Edge.BAD);
        Due.is("feed then", x.feed(' '), 160);
        Due.is("feed once more", x.feed(' '), Edge.FULL);
    }

    private static void lines() {
        Due.sentence("4: THE TAPE tells all: how many lines. text: { line }");
        taken("", 0);
        taken(" ", 0);
        taken(times(160, " "), 0);
        taken("plan 0;", 1);
        taken("pump 9 9 9;", 1);
        taken("pump 9 9 9;plan 0;", 2);
        taken(FIVE, 5);
        taken(FIVE + "plan 0;", 6);
        taken("plan 0;" + FIVE, 6);
        Due.sentence("FAULTS 2: a TOKEN that can not stand there");
        faulty("plan 0;;", 7, 2);
        faulty(FIVE + ";", 59, 2);
    }

    private static void tapeIsEmptyThen() {
        Due.sentence("4: THE TAPE (empty then)");
        CellsInRow x = new CellsInRow();
        Due.is("text taken", Due.tell(x, "plan 5;"), 1);
        Due.is("bytes then", x.count(2), 0);
        Due.is("text refused", Due.tell(x, "plan 5 x;"), -17);
        Due.is("bytes then", x.count(2), 0);
        Due.is("feed begins anew", x.feed('p'), 1);
        x.end(0);
        Due.is("a text of nothing is taken", x.text(), 0);
        Due.is("and tells that there is nothing", x.rule(1), 0);
    }

    private static boolean isName(int b) {
        return b >= 'a' && b <= 'z';
    }

    private static boolean isFigure(int b) {
        return b >= '0' && b <= '9';
    }

    private static void everyByteAlone() {
        Due.sentence("TOKENS: blanks (32), NAMES (a .. z), NUMBERS, one ; FAULTS 1: no TOKEN; 2: can not stand there");
        for (int b = 0; b <= 127; b++) {
            CellsInRow x = new CellsInRow();
            x.feed(b);
            boolean token = isName(b) || isFigure(b) || b == ';';
            Due.is("text of byte " + b, x.text(), b == 32 ? 0 : -10);
            Due.is("fault of byte " + b, x.fault(), b == 32 ? 0 : token ? 2 : 1);
            Due.is("byte " + b + " is gone", x.count(2), 0);
        }
    }

    private static void everyByteBehindNumbers() {
        Due.sentence("TOKENS; line: plain N N N ; FAULTS 1 no TOKEN, 2 can not stand there, 3 out of its bounds");
        for (int b = 0; b <= 127; b++) {
            CellsInRow x = new CellsInRow();
            Edge.feed(x, "plain 9 9 9");
            x.feed(b);
            int place = isFigure(b) ? 10 : b == ' ' ? 12 : 11;
            int fault = isFigure(b) ? 3 : isName(b) || b == ' ' ? 2 : 1;
            Due.is("text with byte " + b, x.text(), b == ';' ? 1 : -10 - place);
            Due.is("fault with byte " + b, x.fault(), b == ';' ? 0 : fault);
        }
    }

    private static void tokensAsLongAsMayBe() {
        Due.sentence("TOKENS, each as long as may be, blanks (32) between");
        taken("plan1 2;plain9 8 7;pump1 1 1;", 3);
        taken("  plan   1  2  ;   plain  9  8  7  ;  ", 2);
        CellsInRow x = Due.told("plan 12;");
        Due.is("12 is one NUMBER", x.rule(1) * 100 + x.sign(0), 112);
        x = Due.told("plan 1 2;");
        Due.is("1 2 are two", x.rule(1) * 10000 + x.sign(0) * 100 + x.sign(1), 20102);
        faulty("pla n 1;", 0, 2);
        faulty("planplan 1;", 0, 2);
        faulty("plan 5plain 9 9 9;", 6, 2);
        faulty("plain 9 9 9plan 1;", 11, 2);
    }

    private static void figures() {
        Due.sentence("NUMBERS (1 or 2 figures). FAULTS 1: a NUMBER that is too long (its first byte)");
        taken("plan 7;", 1);
        taken("plan 07;", 1);
        faulty("plan 007;", 5, 1);
        faulty("plan 0000000007;", 5, 1);
        faulty("plan 7 007;", 7, 1);
        faulty("plan 180;", 5, 1);
        faulty("plan " + times(155, "1"), 5, 1);
        faulty("pump 099 0 0;", 5, 1);
        faulty("pump 9 009 0;", 7, 1);
        faulty("pump 9 9 009;", 9, 1);
        faulty("001", 0, 1);
        faulty("01", 0, 2);
    }

    private static void rooms() {
        Due.sentence("a ROOM (1 to 99). FAULTS 3: a NUMBER out of its bounds");
        for (String kind : new String[] {"plain", "bleed", "share", "pump"}) {
            int at = kind.length() + 1;
            faulty(kind + " 0 0 0;", at, 3);
            faulty(kind + " 00 0 0;", at, 3);
            taken(kind + " 1 0 0;", 1);
            taken(kind + " 2 0 0;", 1);
            taken(kind + " 98 0 0;", 1);
            taken(kind + " 99 0 0;", 1);
            faulty(kind + " 100 0 0;", at, 1);
        }
        Due.is("room 1", Due.told("bleed 1 0 0;").unit(0, 1), 1);
        Due.is("room 99", Due.told("bleed 99 0 0;").unit(0, 1), 99);
    }

    private static void charges() {
        Due.sentence("a CHARGE (0 to ROOM). FAULTS 3: CHARGE: more than ROOM");
        for (int room : new int[] {1, 2, 50, 98}) {
            String head = "share " + room + " ";
            for (int charge : new int[] {0, 1, room - 1, room}) {
                Due.is("charge " + charge + " of " + room, Due.told(head + charge + " 0;").unit(0, 2), charge);
            }
            faulty(head + (room + 1) + " 0;", head.length(), 3);
            faulty(head + "99 0;", head.length(), 3);
        }
        Due.is("charge 98 of 99", Due.told("share 99 98 0;").unit(0, 2), 98);
        Due.is("charge 99 of 99", Due.told("share 99 99 0;").unit(0, 2), 99);
        faulty("share 99 100 0;", 9, 1);
    }

    private static void leaks() {
        Due.sentence("a LEAK (0 to 9). FAULTS 3: a NUMBER out of its bounds");
        for (int leak : new int[] {0, 1, 8, 9}) {
            Due.is("leak " + leak, Due.told("pump 9 9 " + leak + ";").unit(0, 3), leak);
        }
        Due.is("leak 09", Due.told("pump 9 9 09;").unit(0, 3), 9);
        faulty("pump 9 9 10;", 9, 3);
        faulty("pump 9 9 99;", 9, 3);
        faulty("pump 9 9 100;", 9, 1);
    }

    private static void signValues() {
        Due.sentence("SIGNS, told as 0 to 18. FAULTS 3: a NUMBER out of its bounds");
        for (int v : new int[] {0, 1, 9, 17, 18}) {
            Due.is("sign " + v, Due.told("plan " + v + ";").sign(0), v);
            Due.is("sign " + v + " behind another", Due.told("plan 5 " + v + ";").sign(1), v);
        }
        for (int v : new int[] {19, 20, 99}) {
            faulty("plan " + v + ";", 5, 3);
            faulty("plan 18 " + v + ";", 8, 3);
        }
    }

    private static void manySigns() {
        Due.sentence("plan N { N } ; SIGNS (1 to 16)");
        faulty("plan ;", 5, 2);
        faulty("plan;", 4, 2);
        for (int n : new int[] {1, 2, 15, 16}) {
            CellsInRow x = Due.told("plan" + times(n - 1, " 1") + " 3;");
            Due.is("signs", x.rule(1), n);
            Due.is("the last", x.sign(n - 1), 3);
            Due.is("behind the last", x.sign(n), Edge.BAD);
        }
        faulty("plan" + times(17, " 1") + ";", 37, 5);
        faulty("plan" + times(18, " 1") + ";", 37, 5);
    }

    private static void seventeenth() {
        Due.sentence("FAULTS 5: a 17th SIGN (its NUMBER, whether it is one or not)");
        for (int v : new int[] {0, 18, 19, 99}) {
            faulty(FIFTEEN + " 1 " + v + ";", 37, 5);
            faulty(FIFTEEN + " 1 " + v, 37, 5);
        }
        faulty(FIFTEEN + " 19 1;", 35, 3);
        faulty(FIFTEEN + " 1 100;", 37, 1);
        faulty(FIFTEEN + " 1 #", 37, 1);
        faulty(FIFTEEN + " 1 plan", 37, 2);
        faulty(FIFTEEN + " 1", 36, 2);
        faulty(FIFTEEN + " 1 ", 37, 2);
        taken(FIFTEEN + " 1 ;", 1);
    }

    private static void manyCells() {
        Due.sentence("CELLS (5 at most). FAULTS 5: the 6th CELL (its NAME)");
        Due.is("four", Due.told("plain 1 0 0;bleed 1 0 0;share 1 0 0;pump 1 0 0;").rule(0), 4);
        Due.is("five", Due.told(FIVE).rule(0), 5);
        for (String kind : new String[] {"plain", "bleed", "share", "pump"}) {
            faulty(FIVE + kind + " 1 0 0;", 59, 5);
            faulty(FIVE + kind + " 0 0 0;", 59, 5);
            faulty(FIVE + kind, 59, 5);
            faulty(FIVE + "  " + kind + "#", 61, 5);
        }
        faulty(FIVE + "plan 1;pump 1 0 0;", 66, 5);
        faulty(FIVE + "pumps 1 0 0;", 59, 2);
        CellsInRow x = Due.told("plain 1 0 9;bleed 2 1 8;share 3 2 7;pump 4 3 6;plain 5 4 5;");
        for (int c = 0; c < 5; c++) {
            Due.is("by order, KIND of " + c, x.unit(c, 0), c % 4);
            Due.is("by order, ROOM of " + c, x.unit(c, 1), c + 1);
            Due.is("by order, CHARGE of " + c, x.unit(c, 2), c);
            Due.is("by order, LEAK of " + c, x.unit(c, 3), 9 - c);
        }
    }

    private static void plans() {
        Due.sentence("FAULTS 4: plan for the second time (its NAME)");
        taken("pump 1 0 0;", 1);
        taken("plan 1;", 1);
        faulty("plan 1;plan 1;", 7, 4);
        faulty("plan 1;plan", 7, 4);
        faulty("plan 1; plan 19;", 8, 4);
        faulty("plan 1;pump 1 0 0;plan 1;", 18, 4);
        faulty("plan 1;" + FIVE + "plan", 66, 4);
        // a text that was refused or taken ahead does not count
        CellsInRow x = new CellsInRow();
        Due.is("plan, refused", Due.tell(x, "plan 1 x"), -17);
        Due.is("plan", Due.tell(x, "plan 1;"), 1);
        Due.is("plan of another text", Due.tell(x, "plan 2;"), 1);
    }

    private static void namesOfLines() {
        Due.sentence("FAULTS 2: a TOKEN that can not stand there (a NAME that begins no line)");
        for (String name : new String[] {"a", "z", "plai", "plains", "xlain", "plaix", "blee", "bleeds", "bleee", "shar",
            "shares", "sharf", "pum", "pumps", "pumq", "pla", "plans", "plam", "qlan"}) {
            faulty(name + " 1 0 0;", 0, 2);
            faulty("plan 1;" + name + " 1 0 0;", 7, 2);
        }
        faulty("plain plain 0 0;", 6, 2);
        faulty("plain 9 x 0;", 8, 2);
        faulty("plain 9 9 x;", 10, 2);
        faulty("plain;", 5, 2);
        faulty("plain 9;", 7, 2);
        faulty("plain 9 9;", 9, 2);
        faulty("plain 9 9 9 9;", 12, 2);
        faulty("plan x;", 5, 2);
        faulty("9 plain;", 0, 2);
    }

    private static void theEnd() {
        Due.sentence("FAULTS 2: or the end: the length");
        String[] heads = {"plan", "plan 1", "plan 1 2", "pump", "pump 9", "pump 9 9", "pump 9 9 9", "plan 1;pump"};
        for (String head : heads) {
            faulty(head, head.length(), 2);
            faulty(head + " ", head.length() + 1, 2);
            faulty(head + times(159 - head.length(), " "), 159, 2);
            faulty(head + times(160 - head.length(), " "), 160, 2);
        }
    }

    private static void firstMet() {
        Due.sentence("FAULTS, the first met as it is read (a TOKEN is read when the one before has been taken)");
        faulty("plain 0 #", 6, 3);
        faulty("plain # 0", 6, 1);
        faulty("plain 5 6 100;", 8, 3);
        faulty("plain 5 100 10;", 8, 1);
        faulty("plain plain #", 6, 2);
        faulty("plan 19#", 5, 3);
        faulty("plan 1;plan#", 7, 4);
        faulty("plan 1;plans#", 7, 2);
        faulty(FIVE + "pump#", 59, 5);
        faulty(FIVE + "#pump", 59, 1);
        faulty("x#", 0, 2);
        faulty("#x", 0, 1);
        faulty("plain 9 9 9 100;", 12, 1);
    }

    private static void textTaken() {
        Due.sentence("A text that is taken tells all, in place of what there was; nothing is SEEN; IMAGES are gone");
        for (String text : new String[] {"", "plan 4 5;", "pump 7 3 2;"}) {
            CellsInRow x = Edge.rich();
            x.end(0);
            Due.is("text of '" + text + "'", Due.tell(x, text), text.isEmpty() ? 0 : 1);
            boolean cell = text.startsWith("pump");
            int[] rules = {cell ? 1 : 0, text.startsWith("plan") ? 2 : 0, 0, 0, 0, 0, cell ? 3 : 0, 0};
            for (int what = 0; what <= 7; what++) {
                Due.is("rule(" + what + ") then", x.rule(what), rules[what]);
            }
            Due.is("seen", x.count(0), 0);
            Due.is("forget(1)", x.forget(1), Edge.BAD);
            Due.is("images", x.count(1), 0);
            Due.is("back(0)", x.back(0), Edge.STATE);
            Due.is("back(1)", x.back(1), Edge.STATE);
            Due.is("keep(0)", x.keep(0), 0);
            Due.is("fault()", x.fault(), 0);
            Due.is("sheets stay", x.count(3), 6);
            Due.is("torn() stays", x.torn(), 2);
        }
    }

    private static void fewerThanThereWere() {
        Due.sentence("A text that is taken tells all, in place of what there was: no CELL, no SIGN is left of it");
        String five = "pump 99 99 9;pump 99 0 9;pump 99 99 9;pump 99 0 9;pump 99 99 9;" + FIFTEEN + ";";
        CellsInRow x = Due.told(five);
        Due.is("text", Due.tell(x, "share 9 9 0;plain 20 3 0;"), 2);
        Due.is("cells and signs", x.rule(0) * 100 + x.rule(1), 200);
        Due.is("unit(2, 1)", x.unit(2, 1), Edge.BAD);
        Due.is("sign(0)", x.sign(0), Edge.BAD);
        Due.is("rooms and charges", x.count(4) * 100 + x.rule(6), 2912);
        Due.is("send(11)", x.send(11), 0);
        Due.charges("POOREST is of those that are", x, 9, 7);
        Due.is("text", Due.tell(x, "pump 9 0 0;plain 20 8 0;"), 2);
        Due.is("send(7)", x.send(7), 0);
        Due.charges("RICHEST is of those that are", x, 0, 4);
        Due.is("text of five", Due.tell(x, "pump 9 0 0;pump 9 0 0;pump 9 0 0;pump 9 0 0;pump 9 7 0;"), 5);
        Due.is("send(8)", x.send(8), 0);
        Due.charges("RICHEST is the last of five", x, 0, 0, 0, 0, 2);
    }

    private static void faults() {
        Due.sentence("5: The FAULT of the latest text(); 0");
        CellsInRow x = new CellsInRow();
        Due.is("fault() ahead of all", x.fault(), 0);
        String[] texts = {"#", ";", "plan 19", "plan 1;plan", FIVE + "pump"};
        for (int f = 1; f <= 5; f++) {
            Due.that("refused", Due.tell(x, texts[f - 1]) <= -10);
            Due.is("fault()", x.fault(), f);
            x.feed('#');
            x.end(0);
            x.hours(1);
            x.feed(200);
            Due.is("fault() later", x.fault(), f);
        }
        Due.is("taken", x.text(), 0);
        Due.is("fault() of a text that is taken", x.fault(), 0);
        Edge.stays("fault()", CellsInRow::fault, 2);
    }

    private static void rules() {
        Due.sentence("6: 0 CELLS .. 7 whether it STOPS in this HOUR (1, 0). BAD");
        for (int what : new int[] {-1, 8, Edge.LEAST, Edge.MOST}) {
            Edge.stays("rule(" + what + ")", x -> x.rule(what), Edge.BAD);
        }
        int[] rules = {3, 6, 6, 1, 7, 12, 6, 1};
        for (int what = 0; what <= 7; what++) {
            int w = what;
            Edge.stays("rule(" + what + ")", x -> x.rule(w), rules[what]);
        }
        for (int charge = 4; charge <= 6; charge++) {
            Due.is("rule(7), up 4, " + charge + " of 9", Due.told("plain 9 " + charge + " 0;plan 13;").rule(7), charge > 5 ? 1 : 0);
            Due.is("rule(7), down 5, " + charge, Due.told("plain 9 " + charge + " 0;plan 4;").rule(7), charge < 5 ? 1 : 0);
        }
        Due.is("rule(7), none", Due.told("plain 9 0 0;plan 9;").rule(7), 0);
        Due.is("rule(7), no signs", Due.told("plain 9 0 0;").rule(7), 0);
        Due.is("rule(7), no cells", Due.told("plan 0;").rule(7), 0);
        Due.is("rule(6), as much as may be", Due.told(FIVE.replace(" 1 0 ", " 99 99 ")).rule(6), 495);
    }

    private static void units() {
        Due.sentence("7: Of a CELL: 0 KIND, 1 ROOM, 2 CHARGE, 3 LEAK. BAD");
        for (int c : new int[] {-1, Edge.CELLS, 4, 5, Edge.LEAST, Edge.MOST}) {
            Edge.stays("unit(" + c + ", 0)", x -> x.unit(c, 0), Edge.BAD);
        }
        for (int what : new int[] {-1, 4, Edge.LEAST, Edge.MOST}) {
            Edge.stays("unit(0, " + what + ")", x -> x.unit(0, what), Edge.BAD);
            Edge.stays("unit(2, " + what + ")", x -> x.unit(2, what), Edge.BAD);
        }
        int[][] units = {{0, 20, 3, 1}, {1, 9, 3, 0}, {3, 30, 0, 2}};
        for (int c = 0; c < Edge.CELLS; c++) {
            for (int what = 0; what <= 3; what++) {
                int i = c;
                int w = what;
                Edge.stays("unit(" + c + ", " + what + ")", x -> x.unit(i, w), units[c][what]);
            }
        }
        Due.is("unit(4, 1) of five", Due.told(FIVE).unit(4, 1), 1);
        Due.is("unit(5, 1) of five", Due.told(FIVE).unit(5, 1), Edge.BAD);
    }

    private static void signs() {
        Due.sentence("8: A SIGN (as told). BAD");
        for (int i : new int[] {-1, Edge.SIGNS, 15, 16, Edge.LEAST, Edge.MOST}) {
            Edge.stays("sign(" + i + ")", x -> x.sign(i), Edge.BAD);
        }
        int[] signs = {0, 3, 9, 11, 5, 7};
        for (int i = 0; i < Edge.SIGNS; i++) {
            int which = i;
            Edge.stays("sign(" + i + ")", x -> x.sign(which), signs[i]);
        }
        CellsInRow x = Due.told(FIFTEEN + " 18;");
        Due.is("sign(15) of sixteen", x.sign(15), 18);
        Due.is("sign(16) of sixteen", x.sign(16), Edge.BAD);
    }

    private static void lastCalls() {
        Due.sentence("An object is used for at most 512 calls after it has been made");
        CellsInRow x = new CellsInRow();
        for (int i = 1; i <= 160; i++) {
            Due.is("call " + i, x.feed("plan 8;".charAt(i % 7)), i);
        }
        for (int i = 161; i <= 510; i++) {
            Due.is("call " + i, x.feed(' '), Edge.FULL);
        }
        Due.is("call 511", x.end(0), 160);
        Due.is("call 512", x.text(), 0);
    }
}
