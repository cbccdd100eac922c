/** Promise 7: cell, what registers read as, and what is shut off for the processor. */
public final class CellTest {
    public static void main(String[] args) {
        refusesOtherCells();
        registersReadAsWritten();
        shutInMode3();
        shutInMode2();
        openInModes0And1();
        Checks.end();
    }

    private static void refusesOtherCells() {
        PocketConsole c = new PocketConsole();
        for (int a : new int[] {-1, 256, Integer.MIN_VALUE, Integer.MAX_VALUE}) {
            Checks.due("cell(" + a + ")", c.cell(a), -1);
        }
        Checks.due("cell(255)", c.cell(255), 0);
    }

    private static void registersReadAsWritten() {
        // What 255 and 170 read as; DIV, LCDC and DMA are left out, as they set things going.
        int[][] rows = {
            {240, 63, 32 + 15}, {242, 255, 170}, {243, 255, 170}, {244, 255, 170}, {245, 31, 10}, {246, 255, 170},
            {248, 120, 40}, {249, 255, 170}, {250, 255, 170}, {251, 0, 0}, {252, 255, 170}, {254, 255, 170},
            {255, 255, 170}};
        for (int[] row : rows) {
            PocketConsole c = Checks.with(Scenes.writes(row[0], 255, row[0], 170));
            c.run(5);
            Checks.due("register " + row[0] + " after 255", c.cell(row[0]), row[1]);
            c.run(5);
            Checks.due("register " + row[0] + " after 170", c.cell(row[0]), row[2]);
        }
        PocketConsole c = Checks.with(Scenes.writes(253, 250));
        c.run(5);
        Checks.due("DMA", c.cell(253), 250);
        Checks.due("DIV", c.cell(241), 1);
        PocketConsole d = Checks.with(Scenes.writes(247, 254, 247, 251));
        d.run(5);
        Checks.due("LCDC, the video off", d.cell(247), 254);
        d.run(5);
        Checks.due("LCDC, the video on", d.cell(247), 251);
        Checks.due("STAT, LY is LYC", d.cell(248), 4);
    }

    /** What the processor reads at a in the cycle of this DOT (2 or more). */
    private static int readAtDot(int dot, int a) {
        int[] program = new int[dot + 2];
        program[dot - 2] = 13;
        program[dot - 1] = a;
        program[dot] = 1;
        PocketConsole c = Scenes.onThen(program, 1);
        c.put(a, 42);
        c.run(dot + 1);
        Checks.due("DOT", c.video(0), dot);
        Checks.due("cell(" + a + ") is never shut", c.cell(a), 42);
        return c.cpu(0);
    }

    /** What cell a has after the processor wrote 1 there in the cycle of this DOT (2 or more), 42 before. */
    private static int writtenAtDot(int dot, int a) {
        int[] program = new int[dot + 2];
        program[dot - 2] = 14;
        program[dot - 1] = a;
        program[dot] = 1;
        PocketConsole c = Scenes.onThen(program, 1);
        c.put(a, 42);
        c.run(dot + 1);
        return c.cell(a);
    }

    private static void shutInMode3() {
        // MODE 3 is DOTS 4 to 15 here.
        for (int dot : new int[] {4, 9, 15}) {
            for (int a : new int[] {128, 159, 160, 176, 191, 192, 207}) {
                Checks.due("read " + a + " in MODE 3, DOT " + dot, readAtDot(dot, a), 255);
                Checks.due("write " + a + " in MODE 3, DOT " + dot, writtenAtDot(dot, a), 42);
            }
            for (int a : new int[] {100, 127, 208, 239}) {
                Checks.due("read " + a + " in MODE 3, DOT " + dot, readAtDot(dot, a), 42);
                Checks.due("write " + a + " in MODE 3, DOT " + dot, writtenAtDot(dot, a), 1);
            }
        }
    }

    private static void shutInMode2() {
        for (int dot : new int[] {2, 3}) {
            for (int a : new int[] {192, 207}) {
                Checks.due("read " + a + " in MODE 2, DOT " + dot, readAtDot(dot, a), 255);
                Checks.due("write " + a + " in MODE 2, DOT " + dot, writtenAtDot(dot, a), 42);
            }
            for (int a : new int[] {100, 128, 191, 208}) {
                Checks.due("read " + a + " in MODE 2, DOT " + dot, readAtDot(dot, a), 42);
                Checks.due("write " + a + " in MODE 2, DOT " + dot, writtenAtDot(dot, a), 1);
            }
        }
    }

    private static void openInModes0And1() {
        for (int dot : new int[] {16, 27}) {
            for (int a : new int[] {128, 191, 192, 207}) {
                Checks.due("read " + a + " in MODE 0, DOT " + dot, readAtDot(dot, a), 42);
                Checks.due("write " + a + " in MODE 0, DOT " + dot, writtenAtDot(dot, a), 1);
            }
        }
        // DOT 0 of the next line: MODE 2 again.
        Checks.due("write 192 in DOT 0 of line 1", writtenAtDotOfLine1(192), 42);
        Checks.due("write 191 in DOT 0 of line 1", writtenAtDotOfLine1(191), 1);
        // MODE 1: HALT until line 8's interrupt, then write.
        PocketConsole c = Scenes.onThen(new int[] {1, 14, 192, 14, 128, 1}, 1, 246, 1);
        c.run(300);
        Checks.due("written 192 in MODE 1", c.cell(192), 1);
        Checks.due("written 128 in MODE 1", c.cell(128), 1);
    }

    private static int writtenAtDotOfLine1(int a) {
        int[] program = new int[30];
        program[26] = 14;
        program[27] = a;
        program[28] = 1;
        PocketConsole c = Scenes.onThen(program, 1);
        c.put(a, 42);
        c.run(29);
        Checks.due("LY", c.cell(251), 1);
        return c.cell(a);
    }
}
