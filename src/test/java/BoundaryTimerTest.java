/** The boundary cases of "Terms", sentence by sentence: the timer. */
public final class BoundaryTimerTest {
    public static void main(String[] args) {
        dividerWraps();
        wrapIsAFallingEdge();
        signalNeedsBoth();
        risingIsNothing();
        goesOffForWhateverReason();
        from255();
        reloadInTheNextCycle();
        divIsAQuarter();
        writingDiv();
        writingTima();
        writingTimaInTheCycleOfAReload();
        writingTmaInTheCycleOfAReload();
        Checks.end();
    }

    private static void dividerWraps() {
        Checks.sentence("is 1 more (0 after 1023)");
        PocketConsole c = Checks.with(1);
        c.run(1023);
        Checks.due("the DIVIDER", c.timer(0), 1023);
        c.run(1);
        Checks.due("the DIVIDER after 1023", c.timer(0), 0);
        c.run(1);
        Checks.due("the DIVIDER after 0", c.timer(0), 1);
    }

    private static void wrapIsAFallingEdge() {
        Checks.sentence("Its SIGNAL is on if bit 2 of TAC and the bit 5, 1, 2, 3 (for TAC mod 4 = 0, 1, 2, 3) of the DIVIDER are on.");
        int[] every = {64, 4, 8, 16};
        for (int choice = 0; choice < 4; choice++) {
            PocketConsole c = Checks.with(16, 4 + choice, 14, 244, 1);
            c.run(1023);
            int before = 1023 / every[choice] - 5 / every[choice];
            Checks.due("TIMA at 1023 with TAC " + (4 + choice), c.cell(242), before);
            c.run(1);
            Checks.due("TIMA at 0 with TAC " + (4 + choice), c.cell(242), before + 1);
            // The first edge of each: just when the bit goes off.
            PocketConsole d = Checks.with(16, 4 + choice, 14, 244, 1);
            int first = (5 / every[choice] + 1) * every[choice];
            d.run(first - 1);
            Checks.due("TIMA before the first edge", d.cell(242), 0);
            d.run(1);
            Checks.due("TIMA at the first edge", d.cell(242), 1);
        }
    }

    private static void signalNeedsBoth() {
        for (int tac : new int[] {0, 1, 2, 3, 8, 251}) {
            PocketConsole c = Checks.with(16, tac, 14, 244, 1);
            c.run(1100);
            Checks.due("TIMA with TAC " + tac, c.cell(242), 0);
        }
        PocketConsole c = Checks.with(16, 252, 14, 244, 1);
        c.run(64);
        Checks.due("TIMA with TAC 252, as 4", c.cell(242), 1);
    }

    private static void risingIsNothing() {
        Checks.sentence("When it goes off, for whatever reason, TIMA is 1 more");
        // TAC 5 is written in cycle 10, where bit 1 of the DIVIDER is on: it goes on, and off in 12.
        PocketConsole c = Checks.with(Scenes.writes(244, 0, 244, 5));
        c.run(10);
        Checks.due("TIMA when it went on", c.cell(242), 0);
        c.run(1);
        Checks.due("TIMA while it is on", c.cell(242), 0);
        c.run(1);
        Checks.due("TIMA when it went off", c.cell(242), 1);
        c.run(2);
        Checks.due("TIMA when it went on again", c.cell(242), 1);
    }

    private static void goesOffForWhateverReason() {
        // Cycle 15, where all the low bits are on: TAC 7 before, and this then.
        int[][] rows = {{244, 7, 0}, {244, 5, 0}, {244, 6, 0}, {244, 4, 1}, {244, 3, 1}, {244, 0, 1}, {241, 7, 1}, {243, 0, 0}};
        for (int[] row : rows) {
            PocketConsole c = Checks.with(Scenes.writes(252, 0, 244, 7, row[0], row[1]));
            c.run(15);
            Checks.due("TIMA after " + row[1] + " in " + row[0], c.cell(242), row[2]);
        }
        // DIV written with the SIGNAL off: cycle 10 with bit 2 off.
        PocketConsole c = Checks.with(Scenes.writes(244, 6, 241, 0));
        c.run(10);
        Checks.due("TIMA, off before DIV was written", c.cell(242), 1);
        PocketConsole d = Checks.with(Scenes.writes(244, 7, 241, 0));
        d.run(10);
        Checks.due("TIMA, on before DIV was written", d.cell(242), 1);
        PocketConsole e = Checks.with(Scenes.writes(244, 4, 241, 0));
        e.run(10);
        Checks.due("TIMA, off before DIV was written", e.cell(242), 0);
    }

    private static void from255() {
        Checks.sentence("from 255 it becomes 0, and a RELOAD is due in the next cycle");
        for (int tima : new int[] {254, 255}) {
            PocketConsole c = Checks.with(Scenes.writes(243, 9, 242, tima, 244, 5));
            c.put(12, 1);
            c.run(16);
            Checks.due("TIMA from " + tima, c.cell(242), (tima + 1) % 256);
            Checks.due("a RELOAD due from " + tima, c.timer(1), tima == 255 ? 1 : 0);
            Checks.due("IF, as it is still to come", c.cell(245), 0);
        }
    }

    private static void reloadInTheNextCycle() {
        Checks.sentence("if a RELOAD is due, TIMA becomes TMA, and bit 2 of IF is on; then the DIVIDER");
        for (int tma : new int[] {0, 9, 255}) {
            PocketConsole c = Checks.with(Scenes.writes(243, tma, 242, 255, 244, 5));
            c.put(12, 1);
            c.run(17);
            Checks.due("TIMA", c.cell(242), tma);
            Checks.due("IF", c.cell(245), 4);
            Checks.due("no RELOAD due", c.timer(1), 0);
            Checks.due("the DIVIDER", c.timer(0), 17);
            c.run(3);
            Checks.due("TIMA counts on", c.cell(242), (tma + 1) % 256);
            Checks.due("a RELOAD due", c.timer(1), tma == 255 ? 1 : 0);
        }
        // The other bits of IF stay.
        PocketConsole c = Checks.with(Scenes.writes(245, 27, 242, 255, 244, 5));
        c.put(12, 1);
        c.run(17);
        Checks.due("IF with 27 before", c.cell(245), 31);
    }

    private static void divIsAQuarter() {
        Checks.sentence("DIV reads as the DIVIDER / 4");
        PocketConsole c = Checks.with(1);
        int[][] rows = {{3, 0}, {1, 1}, {3, 1}, {1, 2}, {1012, 255}, {3, 255}, {1, 0}};
        for (int[] row : rows) {
            c.run(row[0]);
            Checks.due("DIV with the DIVIDER " + c.timer(0), c.cell(241), row[1]);
        }
    }

    private static void writingDiv() {
        Checks.sentence("writing it, whatever, makes the DIVIDER 0");
        for (int v : new int[] {0, 1, 255}) {
            PocketConsole c = Checks.with(Scenes.writes(252, 1, 241, v));
            c.put(8, 1);
            c.run(10);
            Checks.due("the DIVIDER after " + v, c.timer(0), 0);
            Checks.due("DIV after " + v, c.cell(241), 0);
            c.run(1);
            Checks.due("the DIVIDER in the next cycle", c.timer(0), 1);
        }
    }

    /**
     * TAC is written in cycle 17, TIMA is 255 from 20 on and goes from there in 24: the RELOAD is in 25. 9 is written
     * into this register in this cycle, 21 or later.
     */
    private static PocketConsole writtenNearReload(int register, int cycle) {
        PocketConsole c = Checks.with(18, register, 16, 77, 14, 243, 16, 254, 14, 242, 16, 5, 14, 244, 16, 9);
        int nothings = cycle - 21;
        Checks.put(c, 16 + nothings, 27, 1);
        c.run(19 + nothings);
        Checks.due("the writing instruction", c.run(1), 2);
        Checks.due("the cycle of its end", c.count(0), cycle);
        return c;
    }

    private static void writingTima() {
        Checks.sentence("Writing TIMA: no RELOAD is due any more");
        PocketConsole c = writtenNearReload(242, 24);
        Checks.due("TIMA in cycle 24", c.cell(242), 9);
        Checks.due("a RELOAD due", c.timer(1), 0);
        c.run(1);
        Checks.due("TIMA in cycle 25", c.cell(242), 9);
        Checks.due("IF", c.cell(245), 0);
    }

    private static void writingTimaInTheCycleOfAReload() {
        Checks.sentence("but in the cycle of a RELOAD it has no effect");
        PocketConsole c = writtenNearReload(242, 25);
        Checks.due("TIMA in cycle 25", c.cell(242), 77);
        Checks.due("IF", c.cell(245), 4);
        PocketConsole d = writtenNearReload(242, 26);
        Checks.due("TIMA in cycle 26, as written", d.cell(242), 9);
        Checks.due("IF", d.cell(245), 4);
    }

    private static void writingTmaInTheCycleOfAReload() {
        Checks.sentence("Writing TMA in the cycle of a RELOAD: TIMA gets it, too.");
        PocketConsole c = writtenNearReload(243, 24);
        Checks.due("TIMA in cycle 24", c.cell(242), 0);
        Checks.due("a RELOAD due still", c.timer(1), 1);
        PocketConsole d = writtenNearReload(243, 25);
        Checks.due("TIMA in cycle 25", d.cell(242), 9);
        Checks.due("TMA", d.cell(243), 9);
        PocketConsole e = writtenNearReload(243, 26);
        Checks.due("TIMA in cycle 26", e.cell(242), 77);
        Checks.due("TMA", e.cell(243), 9);
    }
}
