/** Promises 25 to 29: from charges. */
public final class SeenTest {
    public static void main(String[] args) {
        seeing();
        kinds();
        leaks();
        asks();
        Due.finish();
    }

    private static void seeing() {
        CellsInRow x = Due.told("plain 10 2 0;bleed 6 5 1;plan 13 9 5;");
        int[][] bad = {{-1, 0, 1}, {41, 0, 1}, {1, 2, 1}, {1, -1, 1}, {1, 0, -1}, {1, 0, 100}};
        for (int[] b : bad) {
            Due.is("25 see(" + b[0] + ", " + b[1] + ", " + b[2] + ")", x.see(b[0], b[1], b[2]), -1);
        }
        Due.is("26 forget(1) of nothing", x.forget(1), -1);
        Due.is("26 forget(0) of nothing", x.forget(0), 0);
        for (int i = 1; i <= 6; i++) {
            Due.is("25 see", x.see(i == 6 ? 40 : 0, 0, i == 6 ? 99 : 2), i);
        }
        Due.is("25 the 7th", x.see(0, 0, 2), -3);
        Due.is("25 a bad 7th", x.see(41, 0, 2), -1);
        Due.is("26 forget(7)", x.forget(7), -1);
        Due.is("26 forget(-1)", x.forget(-1), -1);
        Due.is("27 not as seen", x.kinds(0), 0);
        Due.is("26 forget(5)", x.forget(5), 6);
        Due.is("27 as seen", x.kinds(0), 15);
        Due.is("25 see again", x.see(1, 0, 6), 6);
    }

    private static void kinds() {
        CellsInRow x = Due.told("plain 10 2 0;bleed 6 5 1;plan 13 9 5;");
        Due.is("27 nothing is seen", x.kinds(0), 15);
        // a plain one would stop hour 0: 5 less 1
        x.see(1, 1, 5);
        Due.is("27 all but plain", x.kinds(1), 14);
        x.forget(0);
        x.see(1, 1, 4);
        Due.is("27 plain", x.kinds(1), 1);
        Due.is("27 of the other", x.kinds(0), 0);
        // told by another cell's charge: it shares with the poorest
        x.forget(0);
        x.see(1, 0, 9);
        Due.is("27 share and pump", x.kinds(1), 12);
        x.see(0, 0, 3);
        Due.is("27 all must be as seen", x.kinds(1), 0);
        Due.is("27 kinds(2)", x.kinds(2), -1);
        Due.is("27 kinds(-1)", x.kinds(-1), -1);
        Due.is("27 nothing is changed", x.unit(1, 0), 1);
        // seen is counted from now on, whenever now is
        x.forget(0);
        x.see(0, 1, 5);
        x.hours(3);
        Due.is("27 from now on", x.kinds(1), 0);
    }

    private static void leaks() {
        CellsInRow x = Due.told("plain 10 8 3;bleed 6 5 1;");
        Due.is("28 nothing is seen", x.leaks(0), 1023);
        x.see(1, 0, 5);
        Due.is("28 leak 3", x.leaks(0), 8);
        Due.is("28 of the other", x.leaks(1), 1023);
        x.forget(0);
        x.see(1, 1, 0);
        Due.is("28 5 and more", x.leaks(1), 0x3e0);
        x.forget(0);
        x.see(40, 1, 0);
        Due.is("28 behind 40 hours", x.leaks(1), 1022);
        x.see(1, 1, 9);
        Due.is("28 by none", x.leaks(1), 0);
        Due.is("28 leaks(2)", x.leaks(2), -1);
        Due.is("28 leaks(-1)", x.leaks(-1), -1);
        Due.is("28 nothing is changed", x.unit(0, 3), 3);
    }

    private static void asks() {
        CellsInRow x = Due.told("plain 20 10 3;bleed 6 2 1;");
        Due.is("29 ask", x.ask(0, 0), 1);
        Due.is("29 how many", x.ask(0, 1), 1);
        // behind 1: 2, 1, 0 (eight of them)
        Due.is("29 ask the poor one", x.ask(1, 0), 1);
        Due.is("29 how many of the poor one", x.ask(1, 1), 8);
        x.see(0, 0, 10);
        Due.is("29 as before", x.ask(0, 0), 1);
        x.see(1, 0, 7);
        Due.is("29 one leak is left", x.ask(0, 0), -4);
        x.forget(0);
        x.see(40, 0, 99);
        Due.is("29 none is left", x.ask(0, 1), -4);
        x.forget(0);
        x.alter(0, 2, 0);
        Due.is("29 all alike for ever", x.ask(0, 0), -4);
        x = Due.told("plain 99 0 0;plan 9 9 9 18 9 9 9 9 9 9 9 9 9 9 9 9;");
        // the leaks of 0 to 9 leave 9 .. 0 behind the first current up
        Due.is("29 the first that tells", x.ask(0, 0), 4);
        Due.is("29 how many", x.ask(0, 1), 1);
        x.see(4, 0, 0);
        Due.is("29 one leak of 9", x.ask(0, 0), -4);
        Due.is("29 ask(1, 0)", x.ask(1, 0), -1);
        Due.is("29 ask(-1, 0)", x.ask(-1, 0), -1);
        Due.is("29 ask(0, 2)", x.ask(0, 2), -1);
        Due.is("29 ask(0, -1)", x.ask(0, -1), -1);
        // of leaks seen as 0 behind 4 hours, the 18 of hour 20 in turn tells them apart: 5 and less
        CellsInRow y = Due.told("plain 99 3 0;plan 9 9 9 9 15 9 9 9 9 9 9 9 9 9 9 9;");
        y.see(4, 0, 0);
        Due.is("28 all that empty it in 4", y.leaks(0), 1022);
        Due.is("29 behind 1: 2, 1, 0 ...", y.ask(0, 0), 5);
        Due.is("29 behind 5: 5, 4, 3, 2, 1, 0 ...", y.ask(0, 1), 4);
        // the last hour that may be asked is 40
        CellsInRow z = Due.told("plain 99 0 0;plan 9;");
        z.cut(0);
        for (int i = 0; i < 13; i++) {
            z.add(9);
        }
        z.set(0, 9);
        Due.is("29 nothing tells", z.ask(0, 0), -4);
        z.set(0, 18);
        Due.is("29 hour 0 of the plan", z.ask(0, 0), 1);
        z.hours(1);
        z.alter(0, 2, 0);
        Due.is("29 when the plan has come round", z.ask(0, 0), 13);
        // 9 up comes in hours 0, 13, 26, 39; cell 1, with room for 6, 7, 8, 9 then, lets the last pass
        z = Due.told("plain 99 0 0;plain 99 93 1;plan 18 9 9 9 13 9 9 9 13 9 9 9 13;");
        Due.is("29 behind 40", z.ask(0, 0), 40);
        z.alter(1, 2, 94);
        Due.is("29 behind 53 would be too late", z.ask(0, 0), 5);
        // what an earlier question found is not taken for what is now
        z = Due.told("plain 20 10 0;");
        Due.is("29 all apart", z.ask(0, 1), 1);
        z.alter(0, 2, 7);
        Due.is("29 leaks of 7, 8, 9 alike", z.ask(0, 1), 3);
    }
}
