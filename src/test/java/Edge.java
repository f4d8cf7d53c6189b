import java.util.ArrayList;
import java.util.List;

/**
 * What the tests of edges share: an object that holds something of all there is, and whether a call has changed
 * anything of it. Making it and asking for all of it stay below the 512 calls that an object is good for.
 */
final class Edge {
    static final int BAD = -1, STATE = -2, FULL = -3, NONE = -4;
    static final int LEAST = Integer.MIN_VALUE, MOST = Integer.MAX_VALUE;
    /** How many bytes, cells, signs, seen there are of rich(). */
    static final int BYTES = 9, CELLS = 3, SIGNS = 6, SEEN = 3;

    /** A call on an object, or several. */
    interface Call {
        long on(CellsInRow x);
    }

    /** How an object is made, each time alike. */
    interface Made {
        CellsInRow anew();
    }

    private Edge() {
    }

    /**
     * Cells, signs, counts above 0, charges seen, two images (each of them other than the present), sheets of each
     * lane and one of nothing, a tape, a fault, a torn reading.
     */
    static CellsInRow rich() {
        CellsInRow x = Due.told("plain 20 9 1;bleed 9 8 0;pump 30 4 2;plan 14 3 9 18 5;");
        x.hours(5);
        x.send(0);
        x.see(1, 1, 9);
        x.see(1, 0, 12);
        x.keep(0);
        x.add(7);
        x.see(2, 2, 0);
        x.hours(1);
        x.keep(1);
        x.alter(0, 2, 3);
        lay(x, 0, 0, 1, 17, 0, 16, 4, 1);
        lay(x, 1, 1, 2, 12, 5, 2);
        lay(x, 2, 2, 3, 11, 0, 0, 1);
        x.read(2, 2, 0, 3);
        // in this hour it stops, and in the next: what leaks alone is seen
        x.forget(0);
        x.see(1, 0, 2);
        x.see(2, 0, 1);
        x.see(1, 1, 3);
        Due.tell(x, ";");
        feed(x, "plan 1 2;");
        return x;
    }

    static void feed(CellsInRow x, String text) {
        for (int i = 0; i < text.length(); i++) {
            x.feed(text.charAt(i));
        }
    }

    static void lay(CellsInRow x, int k, int lane, int... places) {
        x.sheet(k, lane, places.length);
        for (int i = 0; i < places.length; i++) {
            x.lay(k, i, places[i]);
        }
    }

    static Made of(String text, Call... calls) {
        return () -> {
            CellsInRow x = Due.told(text);
            for (Call call : calls) {
                call.on(x);
            }
            return x;
        };
    }

    /** The call answers so, and all is as if it had not been. */
    static void stays(String call, Made made, Call asked, long want) {
        CellsInRow x = made.anew();
        Due.is(call, asked.on(x), want);
        alike(call, all(x), all(made.anew()));
    }

    static void stays(String call, Call asked, long want) {
        stays(call, Edge::rich, asked, want);
    }

    /** The call answers so, and with the other behind it all is as it was: it changed what it should, and that alone. */
    static void undone(String call, Made made, Call asked, long want, Call undoing) {
        CellsInRow x = made.anew();
        Due.is(call, asked.on(x), want);
        undoing.on(x);
        alike(call + ", undone,", all(x), all(made.anew()));
    }

    static void alike(String call, List<String> is, List<String> was) {
        for (int i = 0; i < was.size() && i < is.size(); i++) {
            if (!is.get(i).equals(was.get(i))) {
                Due.that(call + " changes " + was.get(i) + " to " + is.get(i), false);
                return;
            }
        }
        Due.is(call + ": answers about all", is.size(), was.size());
    }

    /** All that can be asked; the first is the fault. The object is of no use then. */
    static List<String> all(CellsInRow x) {
        List<String> told = new ArrayList<>();
        told.add("fault() " + x.fault());
        told.add("torn() " + x.torn());
        present("now", told, x);
        for (int k = 0; k < 2; k++) {
            told.add("back(" + k + ") " + x.back(k));
            present("image " + k, told, x);
        }
        sheets(told, x);
        told.add("text() " + x.text());
        told.add("fault() of the tape " + x.fault());
        present("the tape's", told, x);
        return told;
    }

    private static void present(String whose, List<String> told, CellsInRow x) {
        for (int what = 0; what <= 7; what++) {
            told.add(whose + " rule(" + what + ") " + x.rule(what));
        }
        for (int what = 0; what <= 5; what++) {
            told.add(whose + " count(" + what + ") " + x.count(what));
        }
        int cells = x.rule(0);
        for (int c = 0; c < cells; c++) {
            for (int what = 0; what <= 3; what++) {
                told.add(whose + " unit(" + c + ", " + what + ") " + x.unit(c, what));
            }
        }
        int signs = x.rule(1);
        for (int i = 0; i < signs; i++) {
            told.add(whose + " sign(" + i + ") " + x.sign(i));
        }
        // what is asked BY HOURS depends on nothing that an earlier question left
        told.add(whose + " when() " + x.when());
        for (int what = 0; what <= 3; what++) {
            told.add(whose + " runs(20, " + what + ") " + x.runs(20, what));
        }
        if (cells > 0) {
            told.add(whose + " kinds(0) " + x.kinds(0));
            told.add(whose + " leaks(0) " + x.leaks(0));
        }
    }

    /** From the first place and from the second on, which tells an odd number of places from an even one. */
    private static void sheets(List<String> told, CellsInRow x) {
        for (int k = 0; k < 4; k++) {
            for (int lane = 0; lane < 3; lane++) {
                for (int f = 0; f < 2; f++) {
                    told.add("sheet " + k + " as of " + lane + " from " + f + ": " + x.read(k, lane, f, 20) + ", " + x.torn());
                }
            }
            told.add("sheet " + k + ": " + x.sign(0) + " " + x.sign(1) + " " + x.sign(2) + " " + x.sign(3) + " " + x.sign(4));
        }
    }
}
