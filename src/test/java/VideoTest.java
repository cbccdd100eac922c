/** Promise 10: video, its DOTS, MODES and sprites, STAT and its LINE. */
public final class VideoTest {
    public static void main(String[] args) {
        refusesOthers();
        plainLines();
        lyGoesRound();
        droppedPixelsTakeDots();
        windowTakesDots();
        windowCountsLines();
        spritesAreTaken();
        noneIsTakenWhileCopying();
        spritesTakeDots();
        switchesOffAndOn();
        statReads();
        lineGoesOnByMode();
        lineGoesOnByLy();
        lineStaysOn();
        lineByWriting();
        pictureInterrupts();
        Checks.end();
    }

    private static void due(String what, PocketConsole c, int dot, int mode, int x) {
        Checks.due("DOT, " + what, c.video(0), dot);
        Checks.due("MODE, " + what + ", DOT " + dot, c.video(1), mode);
        Checks.due("x, " + what + ", DOT " + dot, c.video(2), x);
    }

    private static void refusesOthers() {
        PocketConsole c = Scenes.on(1);
        c.run(10);
        for (int what : new int[] {-1, 5, Integer.MIN_VALUE, Integer.MAX_VALUE}) {
            Checks.due("video(" + what + ")", c.video(what), -1);
        }
    }

    /** Looks at all DOTS of the line that begins next; its last pixel is drawn in this DOT. */
    private static void dueLine(String what, PocketConsole c, int last) {
        for (int dot = 0; dot < 28; dot++) {
            c.run(1);
            Checks.due("MODE, " + what + ", DOT " + dot, c.video(1), dot < 4 ? 2 : dot <= last ? 3 : 0);
            if (dot == last) {
                Checks.due("x, " + what + ", DOT " + dot, c.video(2), 12);
            } else if (dot < 4 || dot > last) {
                Checks.due("x, " + what + ", DOT " + dot, c.video(2), 0);
            }
        }
    }

    private static void plainLines() {
        for (int line : new int[] {0, 1, 7, 12}) {
            PocketConsole c = Scenes.on(1);
            due("switched on", c, -1, 0, 0);
            c.run(28 * line);
            for (int dot = 0; dot < 28; dot++) {
                c.run(1);
                due("line " + line, c, dot, dot < 4 ? 2 : dot < 16 ? 3 : 0, dot >= 4 && dot < 16 ? dot - 3 : 0);
                Checks.due("LY", c.cell(251), line % 12);
            }
        }
        for (int line = 8; line < 12; line++) {
            PocketConsole c = Scenes.on(1);
            c.run(28 * line);
            for (int dot = 0; dot < 28; dot++) {
                c.run(1);
                due("line " + line, c, dot, 1, 0);
            }
        }
    }

    private static void lyGoesRound() {
        PocketConsole c = Scenes.on(1);
        Checks.due("LY before DOT 0", c.cell(251), 0);
        for (int line = 0; line < 26; line++) {
            c.run(1);
            Checks.due("LY at DOT 0", c.cell(251), line % 12);
            c.run(27);
            Checks.due("LY at DOT 27", c.cell(251), line % 12);
        }
    }

    private static void droppedPixelsTakeDots() {
        for (int scx : new int[] {0, 1, 2, 3, 4, 7, 255}) {
            PocketConsole c = Scenes.on(1, 250, scx);
            dueLine("SCX " + scx, c, 15 + scx % 4);
        }
        PocketConsole c = Scenes.on(1, 250, 2);
        c.run(5);
        due("one dropped", c, 4, 3, 0);
        c.run(1);
        due("two dropped", c, 5, 3, 0);
        c.run(1);
        due("one drawn", c, 6, 3, 1);
        // SCX counts as it is at DOT 4: written in the cycle of DOT 4 it is too late.
        PocketConsole d = Scenes.onThen(Scenes.writeAtDot(4, 250, 3), 1);
        dueLineAfter("SCX written at DOT 4", d, 15);
        PocketConsole e = Scenes.onThen(new int[] {18, 250, 27, 1}, 1);
        dueLineAfter("SCX 1 written at DOT 3", e, 16);
    }

    /** As dueLine, but the program's instructions are longer than a DOT: just the end of MODE 3. */
    private static void dueLineAfter(String what, PocketConsole c, int last) {
        c.run(last + 1);
        due(what, c, last, 3, 12);
        c.run(1);
        due(what, c, last + 1, 0, 0);
    }

    private static void windowTakesDots() {
        for (int wx : new int[] {0, 1, 6, 11}) {
            dueLine("WX " + wx, Scenes.on(3, 255, wx), 17);
        }
        for (int wx : new int[] {12, 13, 255}) {
            dueLine("WX " + wx, Scenes.on(3, 255, wx), 15);
        }
        dueLine("WX 0 without its bit", Scenes.on(1, 255, 0), 15);
        dueLine("WY 1 in line 0", Scenes.on(3, 254, 1), 15);
        PocketConsole c = Scenes.on(3, 254, 1);
        c.run(28);
        dueLine("WY 1 in line 1", c, 17);
        // The WINDOW at x 0 ends the dropping before it begins; at x 1 all was dropped by then.
        dueLine("WX 0, SCX 3", Scenes.on(3, 255, 0, 250, 3), 17);
        dueLine("WX 1, SCX 3", Scenes.on(3, 255, 1, 250, 3), 20);
        // Switched on while pixels are dropped, at x 0: LCDC 3 at DOT 5, so one of three is not dropped.
        PocketConsole d = Scenes.onThen(Scenes.writeAtDot(5, 247, 3), 1, 250, 3);
        dueLineAfter("WINDOW in the middle of dropping", d, 2 + 15 + 2);
        PocketConsole e = Scenes.on(3, 255, 4);
        e.run(9);
        due("the WINDOW begins", e, 8, 3, 4);
        Checks.due("the WINDOW began", e.video(4), 1);
        e.run(1);
        due("nothing", e, 9, 3, 4);
        e.run(1);
        due("drawn", e, 10, 3, 5);
    }

    private static void windowCountsLines() {
        PocketConsole c = Scenes.on(3, 254, 2, 255, 3);
        c.run(28 * 2 + 7);
        Checks.due("windows before x is WX", c.video(4), 0);
        c.run(1);
        Checks.due("windows in line 2", c.video(4), 1);
        c.run(20);
        Checks.due("windows at the end of line 2", c.video(4), 1);
        c.run(8);
        Checks.due("windows in line 3", c.video(4), 2);
        c.run(28 * 5);
        Checks.due("windows in line 8", c.video(4), 6);
        c.run(28 * 4 - 8);
        Checks.due("LY", c.cell(251), 11);
        Checks.due("windows at the end of line 11", c.video(4), 6);
        c.run(1);
        Checks.due("windows in the next picture", c.video(4), 0);
    }

    private static PocketConsole withSprites(int lcdc, int... cells) {
        PocketConsole c = Scenes.on(lcdc);
        for (int i = 0; i < 4; i++) {
            c.put(192 + 4 * i, 255);
        }
        Checks.put(c, 192, cells);
        return c;
    }

    private static void spritesAreTaken() {
        // Sprites 1 and 3 reach line 2.
        PocketConsole c = withSprites(5, 3, 20, 0, 0, 2, 20, 0, 0, 254, 20, 0, 0, 1, 20, 0, 0);
        c.run(56);
        int[] due = {0, 1, 1, 2, 2};
        for (int dot = 0; dot < 5; dot++) {
            c.run(1);
            Checks.due("TAKEN in line 2, DOT " + dot, c.video(3), due[dot]);
        }
        c.run(22);
        Checks.due("TAKEN at DOT 26", c.video(3), 2);
        // Which lines a sprite is in: y to y + 3, without mod.
        for (int y : new int[] {0, 3, 7, 8, 253, 255}) {
            PocketConsole d = withSprites(1, y, 0, 0, 0);
            for (int line = 0; line < 12; line++) {
                d.run(20);
                Checks.due("TAKEN in line " + line + " with y " + y, d.video(3), line < 8 && line >= y && line <= y + 3 ? 1 : 0);
                d.run(8);
            }
        }
        // At most two, the first ones.
        PocketConsole e = withSprites(5, 0, 1, 0, 0, 0, 2, 0, 0, 0, 3, 0, 0, 0, 4, 0, 0);
        int[] most = {1, 2, 2, 2};
        for (int dot = 0; dot < 4; dot++) {
            e.run(1);
            Checks.due("TAKEN of four, DOT " + dot, e.video(3), most[dot]);
        }
        e.run(28 * 8);
        Checks.due("TAKEN in line 8", e.video(3), 0);
    }

    private static void noneIsTakenWhileCopying() {
        // Cells 208 on are copied onto the sprites. DMA in cycle 10 is copied in 12 to 27; LCDC 1 is written in cycle
        // 24, so DOTS 0 to 2 are 25 to 27 and DOT 3 is 28.
        PocketConsole c = new PocketConsole();
        Checks.put(c, 208, 16, 0, 0, 0, 0, 16, 12, 14, 253, 0, 0, 0, 0, 0, 0, 0, 0, 0, 16, 1, 14, 247, 1);
        c.reset(208);
        c.run(24);
        Checks.due("no DOT", c.video(0), -1);
        Checks.due("cells to copy", c.timer(2), 3);
        int[] due = {0, 0, 0, 1};
        for (int dot = 0; dot < 4; dot++) {
            c.run(1);
            Checks.due("TAKEN while copying, DOT " + dot, c.video(3), due[dot]);
        }
    }

    private static void spritesTakeDots() {
        dueLine("two sprites", withSprites(5, 0, 3, 0, 0, 0, 8, 0, 0), 19);
        dueLine("two sprites at one place", withSprites(5, 0, 3, 0, 0, 0, 3, 0, 0), 19);
        dueLine("three sprites", withSprites(5, 0, 3, 0, 0, 0, 3, 0, 0, 0, 3, 0, 0), 19);
        dueLine("a sprite at 11", withSprites(5, 0, 11, 0, 0), 17);
        dueLine("a sprite at 12", withSprites(5, 0, 12, 0, 0), 15);
        dueLine("a sprite at 0", withSprites(5, 0, 0, 0, 0), 17);
        dueLine("a sprite without its bit", withSprites(1, 0, 0, 0, 0), 15);
        // With a WINDOW at the same place, and dropping: the WINDOW first, then the sprite; nothing is dropped.
        PocketConsole c = Scenes.on(7, 255, 0, 250, 3);
        dueLine("all at once", c, 21);
        // A sprite at 0 is fetched before pixels are dropped.
        PocketConsole d = Scenes.on(5, 250, 2);
        Checks.put(d, 192, 0, 0, 0, 0, 9, 0, 0, 0, 9, 0, 0, 0, 9, 0, 0, 0);
        d.run(9);
        due("a sprite and dropping", d, 8, 3, 1);
        // The most that can be: two sprites, the WINDOW at 1, and three dropped.
        dueLine("the longest MODE 3", Scenes.on(7, 255, 1, 250, 3), 24);
    }

    private static void switchesOffAndOn() {
        // Off in DOT 38, the middle of MODE 3 of line 1, with sprites TAKEN and the WINDOW begun; then on again.
        int[] program = new int[60];
        System.arraycopy(new int[] {16, 0, 14, 247, 0, 0, 16, 1, 14, 247, 1}, 0, program, 34, 11);
        PocketConsole c = Scenes.onThen(program, 7);
        c.run(36);
        due("before off", c, 35 - 28, 3, 0);
        Checks.due("TAKEN before off", c.video(3), 2);
        Checks.due("windows before off", c.video(4), 2);
        c.run(1);
        due("off", c, -1, 0, 0);
        Checks.due("TAKEN when off", c.video(3), 0);
        Checks.due("windows when off", c.video(4), 0);
        Checks.due("LY when off", c.cell(251), 0);
        c.run(2);
        due("off", c, -1, 0, 0);
        c.run(5);
        due("on again", c, -1, 0, 0);
        c.run(1);
        due("on again", c, 0, 2, 0);
        Checks.due("LY", c.cell(251), 0);
        // Writing LCDC with bit 0 on still: nothing begins anew. Writing LY does nothing.
        PocketConsole d = Scenes.onThen(new int[] {14, 247, 14, 251, 1}, 1);
        d.run(6);
        due("on still", d, 5, 3, 2);
        Checks.due("LY", d.cell(251), 0);
        d.run(28);
        Checks.due("LY", d.cell(251), 1);
    }

    private static void statReads() {
        PocketConsole c = Scenes.on(1, 248, 255, 252, 1);
        Checks.due("STAT before DOT 0", c.cell(248), 120);
        c.run(1);
        Checks.due("STAT in MODE 2", c.cell(248), 122);
        c.run(4);
        Checks.due("STAT in MODE 3", c.cell(248), 123);
        c.run(13);
        Checks.due("STAT in MODE 0", c.cell(248), 120);
        c.run(12);
        Checks.due("STAT in MODE 2 of line LYC", c.cell(248), 126);
        c.run(28 * 7);
        Checks.due("STAT in MODE 1", c.cell(248), 121);
        PocketConsole d = Scenes.on(0, 248, 7);
        Checks.due("STAT off, with LY as LYC", d.cell(248), 0);
        PocketConsole e = Scenes.on(1, 248, 7);
        Checks.due("STAT on, with LY as LYC", e.cell(248), 4);
    }

    /** The DOTS (line * 28 + DOT), within this many, after which bit 1 of IF is on for the first time. */
    private static int firstLineBit(PocketConsole c, int most) {
        for (int i = 0; i < most; i++) {
            if ((c.cell(245) & 2) != 0) {
                return i - 1;
            }
            c.run(1);
        }
        return 9999;
    }

    private static void lineGoesOnByMode() {
        Checks.due("MODE 2", firstLineBit(Scenes.on(1, 252, 20, 248, 32), 50), 0);
        // MODE 0 is there before DOT 0 already.
        Checks.due("MODE 0 when switched on", firstLineBit(Scenes.on(1, 252, 20, 248, 8), 50), -1);
        PocketConsole c = Scenes.on(1, 252, 20, 248, 16);
        c.run(200);
        Checks.due("MODE 1", firstLineBit(c, 50), 224 - 200);
        Checks.due("nothing chosen", firstLineBit(Scenes.on(1, 252, 0, 248, 7), 200), 9999);
        Checks.due("off", firstLineBit(Scenes.on(0, 252, 0, 248, 120), 200), 9999);
        // MODE 0 after MODE 3: STAT is written in MODE 2.
        PocketConsole d = Scenes.onThen(Scenes.writeAtDot(5, 248, 8), 1, 252, 20);
        d.run(6);
        Checks.due("MODE 0 after MODE 3", firstLineBit(d, 50), 16 - 6);
    }

    private static void lineGoesOnByLy() {
        Checks.due("LY 0 when switched on", firstLineBit(Scenes.on(1, 252, 0, 248, 64), 50), -1);
        Checks.due("LY 2", firstLineBit(Scenes.on(1, 252, 2, 248, 64), 90), 56);
        PocketConsole c = Scenes.on(1, 252, 12, 248, 64);
        c.run(400);
        Checks.due("LY 12 is never", c.cell(245), 1);
    }

    private static void lineStaysOn() {
        // MODES 0 and 2 both: from MODE 0 to MODE 2 it stays on. IF is cleared in MODE 0 of line 0 (DOTS 16 to 27).
        PocketConsole c = Scenes.onThen(Scenes.writeAtDot(20, 245, 0), 1, 252, 20, 248, 40);
        c.run(21);
        Checks.due("IF cleared", c.cell(245), 0);
        Checks.due("no news until MODE 0 of line 1", firstLineBit(c, 60), 28 + 16 - 21);
        // MODE 2, and all of line 1: it goes on where line 1 begins.
        PocketConsole d = Scenes.onThen(Scenes.writeAtDot(20, 245, 0), 1, 252, 1, 248, 32 + 64);
        d.run(21);
        Checks.due("IF cleared", d.cell(245), 0);
        Checks.due("line 1", firstLineBit(d, 60), 28 - 21);
        PocketConsole e = Scenes.onThen(Scenes.writeAtDot(32, 245, 0), 1, 252, 1, 248, 32 + 64);
        e.run(33);
        Checks.due("LY", e.cell(251), 1);
        Checks.due("IF cleared", e.cell(245), 0);
        // MODE 2 of line 2 follows line 1 at once.
        Checks.due("on through to line 2, news in line 3", firstLineBit(e, 90), 84 - 33);
    }

    private static void lineByWriting() {
        // In MODE 3 of line 0, DOT 8: LYC gets 0, which makes the LINE go on at once.
        PocketConsole c = Scenes.onThen(Scenes.writeAtDot(8, 252, 0), 1, 252, 5, 248, 64);
        c.run(6);
        Checks.due("IF before", c.cell(245), 0);
        c.run(1);
        Checks.due("IF by writing LYC", c.cell(245), 2);
        // STAT written with bit 5: in DOT 4, that is MODE 3; in DOT 2, that is MODE 2.
        PocketConsole d = Scenes.onThen(new int[] {18, 248, 19, 32, 1}, 1, 252, 5);
        d.run(5);
        Checks.due("IF by writing STAT in MODE 3", d.cell(245), 0);
        PocketConsole e = Scenes.onThen(new int[] {14, 248, 1}, 33, 252, 5);
        e.run(3);
        Checks.due("IF by writing STAT in MODE 2", e.cell(245), 2);
        // Writing IF with the LINE on: it stays as written.
        PocketConsole f = Scenes.onThen(new int[] {14, 248, 16, 0, 14, 245, 1}, 33, 252, 0);
        f.run(8);
        Checks.due("IF written", f.cell(245), 0);
        // Off and on again by LCDC: the LINE goes off, and on.
        PocketConsole g = Scenes.onThen(Scenes.writes(247, 0, 245, 0, 247, 1), 1, 252, 0, 248, 64);
        Checks.due("IF by switching on", g.cell(245), 2);
        g.run(10);
        Checks.due("IF cleared when off", g.cell(245), 0);
        g.run(5);
        Checks.due("IF by switching on again", g.cell(245), 2);
    }

    private static void pictureInterrupts() {
        PocketConsole c = Scenes.on(1);
        c.run(224);
        Checks.due("IF in line 7", c.cell(245), 0);
        Checks.due("pictures", c.count(4), 0);
        c.run(1);
        Checks.due("IF at DOT 0 of line 8", c.cell(245), 1);
        Checks.due("pictures", c.count(4), 1);
        c.run(335);
        Checks.due("pictures", c.count(4), 1);
        c.run(1);
        Checks.due("pictures", c.count(4), 2);
    }
}
