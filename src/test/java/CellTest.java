/** Promise 7: cell, what registers read as, and what is shut off for the processor. */
public final class CellTest {
    public static void main(String[] args) {
        refusesOtherCells();
        registersReadAsWritten();
        shutInMode3();
        shutInMode2();
        openInModes0And1();
        neverShutForCell();
        Checks.end();
    }

    private static void refusesOtherCells() {
        PocketConsole c = new PocketConsole();
        for (int a : new int[] {-1, 256, Integer.MIN_VALUE, Integer.MAX_VALUE}) {
            Checks.due("cell(" + a + ")", c.cell(a), -1);
        }
        Checks.due("cell(255)", c.cell(255), 0);
    }

    private static void registersReadAsWritten() {
        // What 255 and 170 read as; DIV, LCDC and DMA are left out, as they set things going.
        int[][] rows = {
            {240, 63, 32 + 15}, {242, 255, 170}, {243, 255, 170}, {244, 255, 170}, {245, 31, 10}, {246, 255, 170},
            {248, 120, 40}, {249, 255, 170}, {250, 255, 170}, {251, 0, 0}, {252, 255, 170}, {254, 255, 170},
            {255, 255, 170}};
        for (int[] row : rows) {
            PocketConsole c = Checks.with(Scenes.writes(row[0], 255, row[0], 170));
            c.run(5);
            Checks.due("register " + row[0] + " after 255", c.cell(row[0]), row[1]);
            c.run(5);
            Checks.due("register " + row[0] + " after 170", c.cell(row[0]), row[2]);
        }
        PocketConsole c = Checks.with(Scenes.writes(253, 250));
        c.run(5);
        Checks.due("DMA", c.cell(253), 250);
        Checks.due("DIV", c.cell(241), 1);
        PocketConsole d = Checks.with(Scenes.writes(247, 254, 247, 251));
        d.run(5);
        Checks.due("LCDC, the video off", d.cell(247), 254);
        d.run(5);
        Checks.due("LCDC, the video on", d.cell(247), 251);
        Checks.due("STAT, LY is LYC", d.cell(248), 4);
    }

    private static void shutInMode3() {
        // MODE 3 is DOTS 4 to 15 here.
        for (int dot : new int[] {4, 9, 15}) {
            for (int a : new int[] {128, 159, 160, 176, 191, 192, 207}) {
                Checks.due("read " + a + " in MODE 3, DOT " + dot, Scenes.readAtDot(dot, a), 255);
                Checks.due("write " + a + " in MODE 3, DOT " + dot, Scenes.writtenAtDot(dot, a), 42);
            }
            for (int a : new int[] {100, 127, 208, 239}) {
                Checks.due("read " + a + " in MODE 3, DOT " + dot, Scenes.readAtDot(dot, a), 42);
                Checks.due("write " + a + " in MODE 3, DOT " + dot, Scenes.writtenAtDot(dot, a), 1);
            }
        }
    }

    private static void shutInMode2() {
        // These are DOTS of line 1.
        for (int dot : new int[] {28, 29, 31}) {
            for (int a : new int[] {192, 207}) {
                Checks.due("read " + a + " in MODE 2, DOT " + dot, Scenes.readAtDot(dot, a), 255);
                Checks.due("write " + a + " in MODE 2, DOT " + dot, Scenes.writtenAtDot(dot, a), 42);
            }
            for (int a : new int[] {100, 128, 191, 208}) {
                Checks.due("read " + a + " in MODE 2, DOT " + dot, Scenes.readAtDot(dot, a), 42);
                Checks.due("write " + a + " in MODE 2, DOT " + dot, Scenes.writtenAtDot(dot, a), 1);
            }
        }
    }

    private static void openInModes0And1() {
        for (int dot : new int[] {16, 27}) {
            for (int a : new int[] {128, 191, 192, 207}) {
                Checks.due("read " + a + " in MODE 0, DOT " + dot, Scenes.readAtDot(dot, a), 42);
                Checks.due("write " + a + " in MODE 0, DOT " + dot, Scenes.writtenAtDot(dot, a), 1);
            }
        }
        // DOT 0 of the next line: MODE 2 again.
        Checks.due("write 192 in DOT 0 of line 1", Scenes.writtenAtDot(28, 192), 42);
        Checks.due("write 191 in DOT 0 of line 1", Scenes.writtenAtDot(28, 191), 1);
        // MODE 1: HALT until line 8's interrupt, then write.
        PocketConsole c = Scenes.onThen(new int[] {1, 14, 192, 14, 128, 1}, 1, 246, 1);
        c.run(300);
        Checks.due("written 192 in MODE 1", c.cell(192), 1);
        Checks.due("written 128 in MODE 1", c.cell(128), 1);
    }

    private static void neverShutForCell() {
        PocketConsole c = Scenes.on(1);
        c.run(10);
        Checks.due("MODE", c.video(1), 3);
        for (int a : new int[] {127, 128, 191, 192, 207, 208}) {
            c.put(a, 42);
            Checks.due("cell(" + a + ") in MODE 3", c.cell(a), 42);
        }
    }
}
