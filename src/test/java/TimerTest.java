/** Promise 9: timer, and the timer itself; what it says of copying is in CopyingTest. */
public final class TimerTest {
    public static void main(String[] args) {
        refusesOthers();
        dividerCounts();
        everyBitCounts();
        offWithoutBit2();
        reloads();
        writingTimaStopsTheReload();
        writingTimaInItsCycleIsNothing();
        writingTmaInItsCycleGoesOn();
        signalGoesOffByDiv();
        signalGoesOffByTac();
        reloadInterrupts();
        reloadsAgainAndAgain();
        Checks.end();
    }

    private static void refusesOthers() {
        PocketConsole c = new PocketConsole();
        for (int what : new int[] {-1, 3, Integer.MIN_VALUE, Integer.MAX_VALUE}) {
            Checks.due("timer(" + what + ")", c.timer(what), -1);
        }
    }

    private static void dividerCounts() {
        PocketConsole c = Checks.with(1);
        c.run(1023);
        Checks.due("DIVIDER", c.timer(0), 1023);
        Checks.due("DIV", c.cell(241), 255);
        c.run(1);
        Checks.due("DIVIDER after 1023", c.timer(0), 0);
        Checks.due("DIV", c.cell(241), 0);
        c.run(7);
        Checks.due("DIVIDER", c.timer(0), 7);
        Checks.due("DIV", c.cell(241), 1);
        PocketConsole d = Checks.with(Scenes.writes(252, 3, 241, 99));
        d.run(9);
        Checks.due("DIVIDER after writing DIV", d.timer(0), 0);
        d.run(3);
        Checks.due("DIVIDER", d.timer(0), 3);
    }

    private static void everyBitCounts() {
        // TIMA is one more whenever the DIVIDER gets to a multiple of this.
        int[] every = {64, 4, 8, 16};
        for (int choice = 0; choice < 4; choice++) {
            for (int more : new int[] {0, 8, 248}) {
                int tac = 4 + choice + more;
                PocketConsole c = Checks.with(16, tac, 14, 244, 1);
                c.run(5);
                for (int cycle = 6; cycle <= 40; cycle++) {
                    c.run(1);
                    Checks.due("TIMA in cycle " + cycle + " with TAC " + tac, c.cell(242), cycle / every[choice] - 5 / every[choice]);
                }
                c.run(24 + 64 + 5);
                Checks.due("TIMA in cycle 133 with TAC " + tac, c.cell(242), 133 / every[choice] - 5 / every[choice]);
            }
        }
    }

    private static void offWithoutBit2() {
        for (int tac : new int[] {0, 1, 2, 3, 251}) {
            PocketConsole c = Checks.with(16, tac, 14, 244, 1);
            c.run(300);
            Checks.due("TIMA with TAC " + tac, c.cell(242), 0);
        }
    }

    /**
     * TMA is 77, TIMA 254; TAC 5 is written in cycle 15. TIMA is 255 in cycle 16, and 0 in cycle 20, where a RELOAD
     * gets due; it comes in 21. This program begins in cycle 16.
     */
    private static PocketConsole nearReload(int... program) {
        int[] before = Scenes.writes(243, 77, 242, 254, 244, 5);
        PocketConsole c = Checks.with(before);
        Checks.put(c, before.length, program);
        c.run(15);
        Checks.due("TIMA in cycle 15", c.cell(242), 254);
        return c;
    }

    private static void reloads() {
        PocketConsole c = nearReload(1);
        c.run(1);
        Checks.due("TIMA in cycle 16", c.cell(242), 255);
        c.run(3);
        Checks.due("TIMA in cycle 19", c.cell(242), 255);
        Checks.due("no RELOAD due", c.timer(1), 0);
        c.run(1);
        Checks.due("TIMA in cycle 20", c.cell(242), 0);
        Checks.due("RELOAD due", c.timer(1), 1);
        Checks.due("IF", c.cell(245), 0);
        c.run(1);
        Checks.due("TIMA in cycle 21", c.cell(242), 77);
        Checks.due("no RELOAD due", c.timer(1), 0);
        Checks.due("IF", c.cell(245), 4);
        c.run(3);
        Checks.due("TIMA in cycle 24", c.cell(242), 78);
    }

    private static void writingTimaStopsTheReload() {
        // In cycle 20: 16 9 is 16 and 17, 14 242 is 18, 19, 20.
        PocketConsole c = nearReload(16, 9, 14, 242, 1);
        c.run(5);
        Checks.due("TIMA in cycle 20", c.cell(242), 9);
        Checks.due("no RELOAD due", c.timer(1), 0);
        c.run(1);
        Checks.due("TIMA in cycle 21", c.cell(242), 9);
        Checks.due("IF", c.cell(245), 0);
        c.run(3);
        Checks.due("TIMA in cycle 24", c.cell(242), 10);
    }

    private static void writingTimaInItsCycleIsNothing() {
        PocketConsole c = nearReload(16, 9, 0, 14, 242, 1);
        c.run(6);
        Checks.due("TIMA in cycle 21", c.cell(242), 77);
        Checks.due("IF", c.cell(245), 4);
        PocketConsole d = nearReload(16, 9, 0, 0, 14, 242, 1);
        d.run(7);
        Checks.due("TIMA in cycle 22", d.cell(242), 9);
        Checks.due("IF", d.cell(245), 4);
    }

    private static void writingTmaInItsCycleGoesOn() {
        PocketConsole c = nearReload(16, 9, 14, 243, 1);
        c.run(5);
        Checks.due("TIMA in cycle 20", c.cell(242), 0);
        c.run(1);
        Checks.due("TIMA in cycle 21, TMA written in 20", c.cell(242), 9);
        PocketConsole d = nearReload(16, 9, 0, 14, 243, 1);
        d.run(6);
        Checks.due("TIMA in cycle 21, TMA written in 21", d.cell(242), 9);
        Checks.due("TMA", d.cell(243), 9);
        PocketConsole e = nearReload(16, 9, 0, 0, 14, 243, 1);
        e.run(7);
        Checks.due("TIMA in cycle 22, TMA written in 22", e.cell(242), 77);
        Checks.due("TMA", e.cell(243), 9);
    }

    private static void signalGoesOffByDiv() {
        // TAC 7 (bit 3) is written in cycle 5; DIV in cycle 5 + m + 3.
        for (int m = 0; m < 16; m++) {
            int[] program = new int[8 + m];
            System.arraycopy(new int[] {16, 7, 14, 244}, 0, program, 0, 4);
            program[4 + m] = 14;
            program[5 + m] = 241;
            program[6 + m] = 1;
            PocketConsole c = Checks.with(program);
            c.run(8 + m);
            int cycle = 8 + m;
            int natural = cycle / 16;
            int byWriting = (cycle >> 3) % 2;
            Checks.due("TIMA after DIV in cycle " + cycle, c.cell(242), natural + byWriting);
            Checks.due("DIVIDER", c.timer(0), 0);
        }
        // From 255 by writing, in cycle 38 with TAC 4 (bit 5): the RELOAD comes in the next cycle.
        PocketConsole d = Checks.with(Scenes.writes(243, 50, 242, 255, 244, 4));
        Checks.put(d, 32, 14, 241, 1);
        d.run(35);
        Checks.due("TIMA in cycle 35", d.cell(242), 255);
        d.run(1);
        Checks.due("TIMA in cycle 38", d.cell(242), 0);
        Checks.due("RELOAD due", d.timer(1), 1);
        d.run(1);
        Checks.due("TIMA in cycle 39", d.cell(242), 50);
        Checks.due("IF", d.cell(245), 4);
    }

    private static void signalGoesOffByTac() {
        // TAC 5 is written in cycle 5, and this in cycle 10: 1010 has bits 1 and 3 on, so bits 2 and 5 are off.
        int[][] rows = {{1, 1}, {5, 0}, {6, 1}, {7, 0}, {4, 1}, {0, 1}};
        for (int[] row : rows) {
            PocketConsole c = Checks.with(Scenes.writes(244, 5, 244, row[0]));
            c.run(9);
            Checks.due("TIMA after TAC 5, then " + row[0], c.cell(242), 1 + row[1]);
        }
        // A RELOAD by TAC: TAC 7 in cycle 10 (1010) with bit 3 on, 0 in cycle 15 (1111).
        PocketConsole d = Checks.with(Scenes.writes(242, 255, 244, 7, 244, 0));
        Checks.put(d, 12, 1);
        d.run(15);
        Checks.due("TIMA in cycle 15", d.cell(242), 0);
        Checks.due("RELOAD due", d.timer(1), 1);
        d.run(1);
        Checks.due("IF in cycle 16", d.cell(245), 4);
        Checks.due("TIMA", d.cell(242), 0);
    }

    private static void reloadInterrupts() {
        int[] before = Scenes.writes(246, 4, 243, 77, 242, 254, 244, 5);
        PocketConsole c = Checks.with(8, 60);
        Checks.put(c, 60, before);
        Checks.put(c, 60 + before.length, 3, 1, 0);
        c.put(24, 1);
        c.run(40);
        Checks.due("interrupts", c.count(2), 1);
        Checks.due("PC in the handler", c.cpu(4), 25);
        Checks.due("IF", c.cell(245), 0);
    }

    private static void reloadsAgainAndAgain() {
        // TMA 255 and TAC 5: TIMA goes from 255 each four cycles.
        PocketConsole c = Checks.with(Scenes.writes(243, 255, 242, 255, 244, 5));
        Checks.put(c, 12, 1);
        c.run(15);
        for (int i = 0; i < 10; i++) {
            c.run(1);
            Checks.due("TIMA at a multiple of 4", c.cell(242), 0);
            Checks.due("RELOAD due", c.timer(1), 1);
            c.run(1);
            Checks.due("TIMA after it", c.cell(242), 255);
            Checks.due("RELOAD due", c.timer(1), 0);
            c.run(2);
        }
    }
}
