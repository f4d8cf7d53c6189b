/** Promises 2 to 8: the text. */
public final class TextTest {
    public static void main(String[] args) {
        feeding();
        ending();
        texts();
        unread();
        misplaced();
        outOfBounds();
        tooMany();
        takenAndRefused();
        asked();
        Due.finish();
    }

    private static void feeding() {
        CellsInRow x = new CellsInRow();
        Due.is("2 feed(-1)", x.feed(-1), -1);
        Due.is("2 feed(128)", x.feed(128), -1);
        for (int i = 1; i <= 160; i++) {
            Due.is("2 feed " + i, x.feed(i % 2 == 0 ? 0 : 127), i);
        }
        Due.is("2 feed 161", x.feed(32), -3);
        Due.is("2 feed 161 bad", x.feed(128), -1);
        Due.is("2 bytes", x.count(2), 160);
    }

    private static void ending() {
        CellsInRow x = new CellsInRow();
        Due.is("3 end(0) of nothing", x.end(0), 0);
        Due.is("3 end(1) of nothing", x.end(1), -1);
        for (char c : "plan 3;;".toCharArray()) {
            x.feed(c);
        }
        Due.is("3 end(-1)", x.end(-1), -1);
        Due.is("3 end(9)", x.end(9), -1);
        Due.is("3 end(8)", x.end(8), 8);
        Due.is("3 end(7)", x.end(7), 8);
        Due.is("3 bytes", x.count(2), 7);
        Due.is("3 text of what is kept", x.text(), 1);
        Due.is("3 sign", x.sign(0), 3);
    }

    private static void texts() {
        CellsInRow x = new CellsInRow();
        Due.is("4 no text", x.text(), 0);
        Due.is("4 blanks", Due.tell(x, "   "), 0);
        Due.is("4 without blanks", Due.tell(x, "plain10 2 0;bleed06 05 1;plan13 9 05;share 1 1 9;pump 99 98 00;"), 5);
        int[][] units = {{0, 10, 2, 0}, {1, 6, 5, 1}, {2, 1, 1, 9}, {3, 99, 98, 0}};
        for (int c = 0; c < units.length; c++) {
            for (int what = 0; what <= 3; what++) {
                Due.is("7 unit(" + c + ", " + what + ")", x.unit(c, what), units[c][what]);
            }
        }
        Due.is("8 sign(0)", x.sign(0), 13);
        Due.is("8 sign(1)", x.sign(1), 9);
        Due.is("8 sign(2)", x.sign(2), 5);
        Due.is("8 sign(3)", x.sign(3), -1);
        Due.is("8 sign(-1)", x.sign(-1), -1);
        Due.is("4 tape is empty then", x.count(2), 0);
        Due.is("4 sixteen signs", Due.tell(x, "plan 0 1 2 3 4 5 6 7 8 9 10 11 12 13 14 18;"), 1);
        Due.is("4 signs", x.rule(1), 16);
        Due.is("4 last sign", x.sign(15), 18);
        Due.is("37 sixteen signs", x.count(5), 123);
        Due.is("4 five cells", Due.tell(x, "pump 1 0 0;share 2 0 0;bleed 3 0 0;plain 4 0 0;plain 5 0 0;"), 5);
        Due.is("4 cells", x.rule(0), 5);
        Due.is("6 charges of five", x.rule(6), 0);
        Due.is("37 rooms of five", x.count(4), 15);
        Due.is("4 signs are gone", x.rule(1), 0);
    }

    private static void faultIs(String text, int place, int fault) {
        CellsInRow x = Due.told("plain 7 3 1;plan 4 5;");
        x.see(1, 0, 2);
        x.keep(0);
        x.hours(3);
        int[] was = state(x);
        Due.is("4 text of '" + text + "'", Due.tell(x, text), -10 - place);
        Due.is("5 fault of '" + text + "'", x.fault(), fault);
        Due.is("4 tape after '" + text + "'", x.count(2), 0);
        Due.that("4 that which was told stays after '" + text + "'", java.util.Arrays.equals(was, state(x)));
        Due.is("5 text that is taken", x.text(), 0);
        Due.is("5 fault of a text that is taken", x.fault(), 0);
    }

    private static int[] state(CellsInRow x) {
        return new int[] {x.rule(0), x.rule(1), x.rule(2), x.rule(3), x.rule(4), x.rule(5), x.rule(6),
            x.unit(0, 0), x.unit(0, 1), x.unit(0, 2), x.unit(0, 3), x.sign(0), x.sign(1), x.count(0), x.count(1)};
    }

    private static void unread() {
        faultIs("Plain 1 0 0;", 0, 1);
        faultIs("{;", 0, 1);
        faultIs("`;", 0, 1);
        faultIs("/;", 0, 1);
        faultIs(":;", 0, 1);
        faultIs("plain 100 0 0;", 6, 1);
        faultIs("plain 001 0 0;", 6, 1);
        faultIs("plain 9 0 0,", 11, 1);
        faultIs("plain 9 0 0;\n", 12, 1);
        faultIs("plan 5 5 -1;", 9, 1);
        faultIs("  \0", 2, 1);
        faultIs("123 plain", 0, 1);
        faultIs("plan 1111111111111111111111;", 5, 1);
        // the 17th is no token at all
        faultIs("plan 1 1 1 1 1 1 1 1 1 1 1 1 1 1 1 1 100;", 37, 1);
        // what stands behind the first fault is never read
        faultIs("plain 0 # 0;", 6, 3);
        faultIs("plain plain # 0;", 6, 2);
    }

    private static void misplaced() {
        faultIs("plains 1 0 0;", 0, 2);
        faultIs("plai 1 0 0;", 0, 2);
        faultIs("xlain 1 0 0;", 0, 2);
        faultIs("plaim 1 0 0;", 0, 2);
        faultIs(" a;", 1, 2);
        faultIs(" z;", 1, 2);
        faultIs("pla 1;", 0, 2);
        faultIs("planpump 1 0 0;", 0, 2);
        faultIs("plan", 4, 2);
        faultIs("plan   ", 7, 2);
        faultIs("plan ;", 5, 2);
        faultIs("plan 5", 6, 2);
        faultIs("plan 5 plan;", 7, 2);
        faultIs(";", 0, 2);
        faultIs("12;", 0, 2);
        faultIs("plain 9 9 9", 11, 2);
        faultIs("plain 9 9 9 9;", 12, 2);
        faultIs("plain 9 9 9;;", 12, 2);
        faultIs("plain ;", 6, 2);
        faultIs("plain 9 ;", 8, 2);
        faultIs("plain 9 9 x;", 10, 2);
        faultIs("plain 9 9 9 bleed 1 0 0;", 12, 2);
        faultIs("plan 1 1 1 1 1 1 1 1 1 1 1 1 1 1 1 1", 36, 2);
        faultIs("plan 1 1 1 1 1 1 1 1 1 1 1 1 1 1 1 1 x;", 37, 2);
    }

    private static void outOfBounds() {
        faultIs("pump 0 0 0;", 5, 3);
        faultIs("pump 00 0 0;", 5, 3);
        faultIs("share 5 6 0;", 8, 3);
        faultIs("bleed 5 5 10;", 10, 3);
        faultIs("plan 19;", 5, 3);
        faultIs("plan 18 0 99;", 10, 3);
    }

    private static void tooMany() {
        faultIs("plan 1;plan 2;", 7, 4);
        faultIs("plan 1; pump 1 0 0; plan;", 20, 4);
        faultIs("plan 1;plan#", 7, 4);
        faultIs("plain 1 0 0;bleed 1 0 0;share 1 0 0;pump 1 0 0;plain 1 0 0;pump", 59, 5);
        faultIs("plain 1 0 0;bleed 1 0 0;share 1 0 0;pump 1 0 0;plain 1 0 0;pumps", 59, 2);
        faultIs("plan 1 1 1 1 1 1 1 1 1 1 1 1 1 1 1 1 1;", 37, 5);
        faultIs("plan 1 1 1 1 1 1 1 1 1 1 1 1 1 1 1 1 19;", 37, 5);
        Due.is("4 a plan behind five cells", Due.tell(new CellsInRow(),
            "plain 1 0 0;bleed 1 0 0;share 1 0 0;pump 1 0 0;plain 1 0 0;plan 3;"), 6);
    }

    private static void takenAndRefused() {
        CellsInRow x = Due.told("bleed 7 3 1;plan 0 18;");
        x.see(1, 0, 2);
        x.keep(0);
        x.keep(1);
        x.sheet(0, 0, 3);
        x.read(0, 1, 0, 1);
        x.hours(3);
        Due.that("4 something is counted", x.rule(2) == 3 && x.rule(3) > 0 && x.rule(4) > 0);
        Due.is("4 told anew", Due.tell(x, "pump 5 1 0;"), 1);
        int[] want = {1, 0, 0, 0, 0, 0, 1, 0};
        for (int what = 0; what < want.length; what++) {
            Due.is("4 anew: rule(" + what + ")", x.rule(what), want[what]);
        }
        Due.is("4 nothing is seen", x.count(0), 0);
        Due.is("4 images are gone", x.count(1), 0);
        Due.is("4 image 0 is gone", x.back(0), -2);
        Due.is("4 image 1 is gone", x.back(1), -2);
        Due.is("4 sheets stay", x.count(3), 3);
        x.keep(0);
        x.hours(2);
        Due.is("4 blanks are a text, too", Due.tell(x, " "), 0);
        Due.is("4 no cells are told", x.rule(0) + x.rule(2), 0);
        Due.is("4 no image", x.count(1), 0);
        Due.is("4 torn stays", x.torn(), 3);
    }

    private static void asked() {
        CellsInRow x = Due.told("plain 9 4 0;share 20 11 2;plan 4 15;");
        Due.is("6 cells", x.rule(0), 2);
        Due.is("6 signs", x.rule(1), 2);
        Due.is("6 charges", x.rule(6), 15);
        Due.is("6 stops in this hour", x.rule(7), 1);
        x.hours(1);
        Due.is("6 hour", x.rule(2), 1);
        Due.is("6 stops", x.rule(3), 1);
        Due.is("6 charges", x.rule(6), 13);
        Due.is("6 stops in the next", x.rule(7), 1);
        x.alter(0, 0, 1);
        Due.is("6 stops no more", x.rule(7), 0);
        x.hours(1);
        Due.is("6 waste", x.rule(4), 1);
        x.send(8);
        Due.is("6 done", x.rule(5), 1);
        Due.is("6 rule(8)", x.rule(8), -1);
        Due.is("6 rule(-1)", x.rule(-1), -1);
        Due.is("7 unit(2, 0)", x.unit(2, 0), -1);
        Due.is("7 unit(-1, 0)", x.unit(-1, 0), -1);
        Due.is("7 unit(0, 4)", x.unit(0, 4), -1);
        Due.is("7 unit(0, -1)", x.unit(0, -1), -1);
    }
}
