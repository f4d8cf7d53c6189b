/** What the tests share: a call's answer against the one that is due. */
final class Due {
    private static int wrong = 0;
    private static int asked = 0;
    private static String sentence = "";

    private Due() {
    }

    /** The words of the document that the answers behind this are due by. */
    static void sentence(String words) {
        sentence = "[" + words + "] ";
    }

    static void is(String call, long got, long want) {
        asked++;
        if (got != want) {
            wrong++;
            System.out.println(sentence + call + " answered " + got + ", due is " + want);
        }
    }

    static void that(String what, boolean holds) {
        is(what, holds ? 1 : 0, 1);
    }

    /** Feeds a text letter by letter and has it told. */
    static int tell(CellsInRow x, String text) {
        for (int i = 0; i < text.length(); i++) {
            x.feed(text.charAt(i));
        }
        return x.text();
    }

    static CellsInRow told(String text) {
        CellsInRow x = new CellsInRow();
        int answer = tell(x, text);
        that("text of " + text + " (" + answer + ")", answer >= 0);
        return x;
    }

    static void charges(String when, CellsInRow x, int... want) {
        is(when + ": cells", x.rule(0), want.length);
        for (int c = 0; c < want.length; c++) {
            is(when + ": charge of " + c, x.unit(c, 2), want[c]);
        }
    }

    static void finish() {
        System.out.println(asked + " answers, " + wrong + " not as due");
        if (wrong != 0 || asked == 0) {
            System.exit(1);
        }
    }
}
