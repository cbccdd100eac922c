/** The boundary cases of "Terms", sentence by sentence: DOTS, lines and MODES, sprites TAKEN, STAT, what is shut off. */
public final class BoundaryVideoTest {
    public static void main(String[] args) {
        onWithBit0();
        switchedOn();
        dotsAndLines();
        switchedOff();
        lines8To11();
        spriteByDot();
        takenByLine();
        fewerThanTwo();
        nothingIsCopied();
        mode3();
        dropsAsAtDot4();
        nothingAfter2Or3();
        firstOfTheseThatHolds();
        windowBegins();
        windowStopsDropping();
        spriteIsFetched();
        pictureIsComplete();
        pictureBegins();
        statKeeps();
        statReadsMode();
        lineByMode();
        lineByLy();
        lineGoesOn();
        lineIsLookedAt();
        writingLy();
        shutInModes();
        Checks.end();
    }

    /** Looks at the DOT done last, its line and its MODE. */
    private static void dueDot(String what, PocketConsole c, int dot, int line, int mode) {
        Checks.due("DOT, " + what, c.video(0), dot);
        Checks.due("LY, " + what, c.cell(251), line);
        Checks.due("MODE, " + what, c.video(1), mode);
    }

    /** A console with the video on that has all sprites out of its lines, but for these. */
    private static PocketConsole sprites(int lcdc, int... cells) {
        PocketConsole c = Scenes.on(lcdc);
        for (int i = 0; i < 4; i++) {
            c.put(192 + 4 * i, 255);
        }
        Checks.put(c, 192, cells);
        return c;
    }

    /** In which DOT of the line that begins next pixel 11 is drawn: the last of MODE 3. */
    private static int lastOfMode3(PocketConsole c) {
        int last = -1;
        for (int dot = 0; dot < 28; dot++) {
            c.run(1);
            if (c.video(1) == 3) {
                last = dot;
                Checks.due("x is below 12 before the last", c.video(2) <= 12, true);
            }
        }
        return last;
    }

    private static void onWithBit0() {
        Checks.sentence("THE VIDEO is on while bit 0 of LCDC is.");
        for (int lcdc : new int[] {0, 2, 254, 1, 3, 255}) {
            PocketConsole c = Scenes.on(lcdc);
            c.run(30);
            dueDot("LCDC " + lcdc, c, lcdc % 2 == 1 ? 1 : -1, lcdc % 2, lcdc % 2 == 1 ? 2 : 0);
        }
    }

    private static void switchedOn() {
        Checks.sentence("When it is switched on, its next turn is DOT 0 of line 0 (before that LY and MODE are 0)");
        PocketConsole c = Scenes.on(1);
        dueDot("switched on", c, -1, 0, 0);
        c.run(1);
        dueDot("the next turn", c, 0, 0, 2);
        // Written again with bit 0 on, it is not switched on: DOTS go on.
        PocketConsole d = Scenes.onThen(Scenes.writeAtDot(30, 247, 9), 1);
        d.run(31);
        dueDot("written again", d, 2, 1, 2);
    }

    private static void dotsAndLines() {
        Checks.sentence("each turn is one DOT: 0..27 of the lines LY 0..11, then line 0 again");
        PocketConsole c = Scenes.on(1);
        c.run(28);
        dueDot("the last of line 0", c, 27, 0, 0);
        c.run(1);
        dueDot("the first of line 1", c, 0, 1, 2);
        c.run(28 * 11 - 1);
        dueDot("the last of line 11", c, 27, 11, 1);
        c.run(1);
        dueDot("line 0 again", c, 0, 0, 2);
    }

    private static void switchedOff() {
        Checks.sentence("When it is switched off LY is 0, the MODE is 0.");
        // In MODE 2, 3 and 0 of line 3, and in line 11.
        for (int dot : new int[] {3 * 28, 3 * 28 + 8, 3 * 28 + 20, 11 * 28 + 27}) {
            PocketConsole c = Scenes.onAt(dot - 4, new int[] {16, 0, 14, 247}, 1);
            c.run(2);
            Checks.due("LY before", c.cell(251), (dot - 3) / 28);
            c.run(1);
            dueDot("off", c, -1, 0, 0);
            Checks.due("TAKEN", c.video(3), 0);
            c.run(40);
            dueDot("off for long", c, -1, 0, 0);
        }
    }

    private static void lines8To11() {
        Checks.sentence("Lines 8 to 11 have MODE 1.");
        PocketConsole c = Scenes.on(1);
        c.run(28 * 8);
        dueDot("the last of line 7", c, 27, 7, 0);
        for (int dot = 0; dot < 28 * 4; dot++) {
            c.run(1);
            Checks.due("MODE in line " + (8 + dot / 28), c.video(1), 1);
            Checks.due("TAKEN in line " + (8 + dot / 28), c.video(3), 0);
        }
        c.run(1);
        dueDot("line 0", c, 0, 0, 2);
    }

    private static void spriteByDot() {
        Checks.sentence("In the others DOTS 0 to 3 have MODE 2, and look at sprite 0, 1, 2, 3");
        for (int sprite = 0; sprite < 4; sprite++) {
            PocketConsole c = sprites(1);
            c.put(192 + 4 * sprite, 0);
            for (int dot = 0; dot < 5; dot++) {
                c.run(1);
                Checks.due("TAKEN of sprite " + sprite + ", DOT " + dot, c.video(3), dot < sprite ? 0 : 1);
                Checks.due("MODE, DOT " + dot, c.video(1), dot < 4 ? 2 : 3);
            }
            // Put in the DOT before it is looked at, it counts; put after it, it does not.
            PocketConsole d = sprites(1);
            d.run(sprite);
            d.put(192 + 4 * sprite, 0);
            d.run(6);
            Checks.due("TAKEN, put before DOT " + sprite, d.video(3), 1);
            PocketConsole e = sprites(1);
            e.run(sprite + 1);
            e.put(192 + 4 * sprite, 0);
            e.run(6);
            Checks.due("TAKEN, put after DOT " + sprite, e.video(3), 0);
        }
    }

    private static void takenByLine() {
        Checks.sentence("it is TAKEN if LY - y (no mod) is 0..3");
        int[][] rows = {{0, 0, 1}, {0, 1, 0}, {3, 0, 1}, {4, 0, 0}, {7, 7, 1}, {7, 4, 1}, {7, 3, 0}, {6, 7, 0},
            {0, 255, 0}, {2, 255, 0}, {3, 255, 0}, {0, 253, 0}, {0, 128, 0}};
        for (int[] row : rows) {
            PocketConsole c = sprites(1, row[1]);
            c.run(28 * row[0] + 4);
            Checks.due("TAKEN with y " + row[1] + " in line " + row[0], c.video(3), row[2]);
        }
    }

    private static void fewerThanTwo() {
        Checks.sentence("fewer than two are TAKEN in this line");
        int[][] ys = {{0, 0, 0, 0}, {255, 0, 0, 0}, {255, 255, 0, 0}, {255, 255, 255, 0}, {0, 255, 255, 0}};
        int[] due = {2, 2, 2, 1, 2};
        for (int i = 0; i < ys.length; i++) {
            PocketConsole c = sprites(5, ys[i][0], 0, 0, 0, ys[i][1], 0, 0, 0, ys[i][2], 0, 0, 0, ys[i][3]);
            c.run(4);
            Checks.due("TAKEN", c.video(3), due[i]);
            c.run(24);
            Checks.due("TAKEN at the end of the line", c.video(3), due[i]);
            c.run(1);
            Checks.due("TAKEN in DOT 0 of the next line", c.video(3), ys[i][0] == 0 ? 1 : 0);
            c.run(3);
            Checks.due("TAKEN in the next line", c.video(3), due[i]);
        }
        // The third is not TAKEN, though it alone would be seen.
        PocketConsole c = sprites(5, 0, 20, 0, 0, 0, 20, 0, 0, 0, 4, 1, 0);
        Scenes.tile(c, 1, 85, 85, 85, 85);
        c.run(225);
        Scenes.dueLine("the third", c, 0, "000000000000");
    }

    /** Sprite 3 alone is in line 0, and copying cells 16 to 31 leaves all sprites as they are. */
    private static PocketConsole copyingLikeThese(int... program) {
        PocketConsole c = new PocketConsole();
        for (int from : new int[] {16, 192}) {
            Checks.put(c, from, 255, 0, 0, 0, 255, 0, 0, 0, 255, 0, 0, 0, 0, 0, 0, 0);
        }
        Checks.put(c, 208, program);
        c.reset(208);
        return c;
    }

    private static void nothingIsCopied() {
        Checks.sentence("and nothing is copied in this cycle");
        // LCDC is written in cycle 7 and DMA in cycle 9 + late: the first cell is copied in DOT 3 + late.
        for (int late = 0; late < 2; late++) {
            PocketConsole c = copyingLikeThese(18, 253, 16, 1, 14, 247);
            Checks.put(c, 214 + late, 27, 1);
            c.run(7 + 4);
            dueDot("sprite 3", c, 3, 0, 2);
            Checks.due("cells copied", c.count(5), 1 - late);
            Checks.due("TAKEN, the first cell copied in DOT " + (3 + late), c.video(3), late);
        }
        // DMA is written in cycle 6 and LCDC in 19 + late: the last cell is copied in 23, DOT 3 - late.
        for (int late = 0; late < 2; late++) {
            PocketConsole c = copyingLikeThese(18, 253, 16, 1, 27);
            Checks.put(c, 223 + late, 14, 247, 1);
            c.run(19 + late + 4);
            dueDot("sprite 3", c, 3, 0, 2);
            Checks.due("cells copied", c.count(5), 16);
            Checks.due("TAKEN, the last cell copied in DOT " + (3 - late), c.video(3), late);
        }
    }

    private static void mode3() {
        Checks.sentence("From DOT 4 on the MODE is 3, until pixel 11 is drawn; from the next DOT on it is 0.");
        PocketConsole c = Scenes.on(1);
        c.run(4);
        dueDot("DOT 3", c, 3, 0, 2);
        c.run(1);
        dueDot("DOT 4", c, 4, 0, 3);
        c.run(11);
        dueDot("pixel 11 is drawn", c, 15, 0, 3);
        Checks.due("pixels drawn", c.count(6), 12);
        c.run(1);
        dueDot("the next DOT", c, 16, 0, 0);
        Checks.due("pixels drawn", c.count(6), 12);
        Checks.sentence("In MODE 3 x is the pixel to be drawn, 0 at first");
        PocketConsole d = Scenes.on(1);
        for (int line = 0; line < 2; line++) {
            d.run(4);
            Checks.due("x in MODE 2", d.video(2), 0);
            d.run(1);
            Checks.due("x after the first pixel", d.video(2), 1);
            d.run(11);
            Checks.due("x after the last pixel", d.video(2), 12);
            d.run(1);
            Checks.due("x in MODE 0", d.video(2), 0);
            d.run(11);
        }
    }

    private static void dropsAsAtDot4() {
        Checks.sentence("SCX mod 4, as it is at DOT 4, pixels are to be dropped");
        int[][] rows = {{0, 15}, {1, 16}, {2, 17}, {3, 18}, {4, 15}, {252, 15}, {255, 18}};
        for (int[] row : rows) {
            PocketConsole c = Scenes.on(1, 250, row[0]);
            Checks.due("the last DOT of MODE 3 with SCX " + row[0], lastOfMode3(c), row[1]);
            Checks.due("pixels drawn", c.count(6), 12);
        }
        // 3 is written in the cycle of DOT 3 of line 1, or in that of DOT 4.
        for (int late = 0; late < 2; late++) {
            PocketConsole c = Scenes.onAt(28 - 1 + late, new int[] {16, 3, 14, 250, 0, 0, 0, 0, 0, 0, 0, 0, 0}, 1);
            c.run(5);
            Checks.due("DOT", c.video(0), 3 + late);
            c.run(12 - late);
            Checks.due("DOT", c.video(0), 15);
            Checks.due("x with SCX written at DOT " + (3 + late), c.video(2), late == 0 ? 9 : 12);
        }
    }

    private static void nothingAfter2Or3() {
        Checks.sentence("1 the DOT before was for 2 or 3: nothing");
        // The WINDOW at 0 (DOTS 4 and 5), sprites at 0 (6 to 9): pixel 0 is drawn in DOT 10.
        PocketConsole c = Scenes.on(7);
        Checks.put(c, 192, 0, 0, 0, 0, 0, 0, 0, 0);
        int[] x = {0, 0, 0, 0, 0, 0, 1, 2};
        c.run(4);
        for (int i = 0; i < x.length; i++) {
            c.run(1);
            Checks.due("x at DOT " + (4 + i), c.video(2), x[i]);
            Checks.due("windows at DOT " + (4 + i), c.video(4), 1);
        }
        c.run(9);
        dueDot("pixel 11", c, 20, 0, 3);
        Checks.due("x", c.video(2), 11);
        c.run(1);
        Checks.due("x", c.video(2), 12);
    }

    private static void firstOfTheseThatHolds() {
        Checks.sentence("Each DOT of MODE 3 is for the first of these that holds");
        // A sprite and the WINDOW at 3, in DOT 7: the WINDOW first. The sprite's tile is put after that, in time.
        PocketConsole c = sprites(7, 0, 3, 0, 0);
        Scenes.tile(c, 1, 85, 85, 85, 85);
        PocketConsole d = Scenes.on(7, 255, 3);
        Checks.put(d, 192, 0, 3, 0, 0, 255, 0, 0, 0, 255, 0, 0, 0, 255);
        Scenes.tile(d, 1, 85, 85, 85, 85);
        d.run(7);
        Checks.due("windows in DOT 6", d.video(4), 0);
        d.run(1);
        Checks.due("windows in DOT 7", d.video(4), 1);
        d.run(1);
        d.put(194, 1);
        d.run(216);
        Scenes.dueLine("the sprite after the WINDOW", d, 0, "000555500000");
        // WX 0 and the sprite at 3: the sprite is in DOT 9, and a tile put after that is too late.
        c.run(10);
        c.put(194, 1);
        c.run(215);
        Scenes.dueLine("the sprite's tile put too late", c, 0, "000000000000");
        Scenes.dueLine("the sprite's tile in the next line", c, 1, "000555500000");
    }

    private static void windowBegins() {
        Checks.sentence("2 bit 1 of LCDC is on, LY is not below WY, x is WX, and the WINDOW has not begun in this line: it begins");
        int[][] wx = {{0, 1}, {11, 1}, {12, 0}, {255, 0}};
        for (int[] row : wx) {
            PocketConsole c = Scenes.on(3, 255, row[0]);
            Checks.due("the last DOT of MODE 3 with WX " + row[0], lastOfMode3(c), 15 + 2 * row[1]);
            Checks.due("windows with WX " + row[0], c.video(4), row[1]);
            PocketConsole d = Scenes.on(249, 255, row[0]);
            Checks.due("the last DOT without bit 1", lastOfMode3(d), 15);
        }
        int[][] wy = {{0, 8}, {1, 7}, {7, 1}, {8, 0}, {255, 0}};
        for (int[] row : wy) {
            PocketConsole c = Scenes.on(3, 254, row[0]);
            c.run(28 * 12);
            Checks.due("lines with the WINDOW with WY " + row[0], c.video(4), row[1]);
        }
        // Once in a line: WX is 2 at first, and 8 from DOT 9 on.
        PocketConsole c = Scenes.onThen(Scenes.writeAtDot(9, 255, 8), 3, 255, 2);
        c.run(18);
        Checks.due("x in DOT 17", c.video(2), 12);
        c.run(10);
        Checks.due("windows", c.video(4), 1);
    }

    private static void windowStopsDropping() {
        Checks.sentence("no strip is there, nothing is to be dropped");
        Checks.due("WX 0 with SCX 3", lastOfMode3(Scenes.on(3, 255, 0, 250, 3)), 17);
        Checks.due("WX 1 with SCX 3", lastOfMode3(Scenes.on(3, 255, 1, 250, 3)), 20);
        // The MAP has 1, the WINDOW MAP 2 and 3: at 2 the strip that was there is gone.
        PocketConsole c = Scenes.on(11, 255, 2);
        Scenes.plainTiles(c);
        Checks.put(c, 160, 1, 1, 1, 1);
        Checks.put(c, 176, 2, 3, 0, 1);
        c.run(225);
        Scenes.dueLine("WX 2", c, 0, "112222333300");
    }

    private static void spriteIsFetched() {
        Checks.sentence("3 bit 2 of LCDC is on, and a TAKEN sprite not fetched yet has X = x: the least of these is fetched");
        int[][] rows = {{0, 1}, {1, 1}, {11, 1}, {12, 0}, {255, 0}};
        for (int[] row : rows) {
            Checks.due("X " + row[0], lastOfMode3(sprites(5, 0, row[0], 0, 0)), 15 + 2 * row[1]);
            Checks.due("X " + row[0] + " without bit 2", lastOfMode3(sprites(251 - 2, 0, row[0], 0, 0)), 15);
        }
        // Two at 3: sprite 0 is fetched in DOT 7, and sprite 1 in DOT 9. What is put in between is for the second.
        PocketConsole c = sprites(5, 0, 3, 1, 0, 0, 3, 1, 0);
        Scenes.tile(c, 1, 64, 64, 64, 64);
        Scenes.tile(c, 2, 170, 170, 170, 170);
        c.run(8);
        c.put(194, 2);
        c.put(198, 2);
        c.run(217);
        Scenes.dueLine("two at 3", c, 0, "000566600000");
    }

    private static void pictureIsComplete() {
        Checks.sentence("At DOT 0 of line 8 the PICTURE is complete: it is the one shown from then on; bit 0 of IF is on.");
        PocketConsole c = Scenes.on(9);
        Scenes.tile(c, 0, 255, 255, 255, 255);
        c.run(28 * 8);
        Checks.due("IF at DOT 27 of line 7", c.cell(245), 0);
        Checks.due("pictures", c.count(4), 0);
        Checks.due("pixel", c.pixel(0, 0), 0);
        c.run(1);
        Checks.due("IF at DOT 0 of line 8", c.cell(245), 1);
        Checks.due("pictures", c.count(4), 1);
        for (int y = 0; y < 8; y++) {
            Scenes.dueLine("the picture", c, y, "333333333333");
        }
        // The other bits of IF stay.
        PocketConsole d = Scenes.on(1, 245, 30);
        d.run(225);
        Checks.due("IF with 30 before", d.cell(245), 31);
        // It is shown until the next one is complete.
        Scenes.tile(c, 0, 85, 85, 85, 85);
        c.run(335);
        Scenes.dueLine("the picture before the next", c, 0, "333333333333");
        c.run(1);
        Scenes.dueLine("the next picture", c, 0, "111111111111");
    }

    private static void pictureBegins() {
        Checks.sentence("All pixels were drawn anew then; those shown at first are 0.");
        // Off in line 4, and on again: nothing of the unfinished one is in the next.
        PocketConsole c = Scenes.onAt(28 * 4 + 20, Scenes.writes(247, 0, 247, 9, 245, 0), 9);
        c.put(c.cpu(4) + 12, 1);
        Scenes.tile(c, 0, 170, 170, 170, 170);
        c.run(10);
        Checks.due("DOT when it is on again", c.video(0), -1);
        Checks.due("pixels drawn before", c.count(6), 60);
        Scenes.tile(c, 0, 85, 85, 85, 85);
        c.run(224);
        Checks.due("shown before line 8", c.picture(), 0);
        c.run(1);
        for (int y = 0; y < 8; y++) {
            Scenes.dueLine("all anew", c, y, "111111111111");
        }
        Checks.sentence("A picture begins at DOT 0 of line 0.");
        PocketConsole d = Scenes.on(3);
        d.run(28 * 12);
        Checks.due("windows at DOT 27 of line 11", d.video(4), 8);
        d.run(1);
        Checks.due("windows at DOT 0 of line 0", d.video(4), 0);
    }

    private static void statKeeps() {
        Checks.sentence("STAT keeps bits 3 to 6 of what is written");
        for (int bit = 0; bit < 8; bit++) {
            PocketConsole c = Checks.with(Scenes.writes(252, 1, 248, 1 << bit));
            c.run(10);
            Checks.due("STAT after bit " + bit, c.cell(248), bit >= 3 && bit <= 6 ? 1 << bit : 0);
        }
    }

    private static void statReadsMode() {
        Checks.sentence("the MODE in bits 0 and 1, and bit 2 if the video is on and LY is LYC");
        PocketConsole c = Scenes.on(1, 252, 11);
        int[][] rows = {{0, 0}, {1, 2}, {4, 3}, {12, 0}, {28 * 8 - 16, 1}, {28 * 3 - 1, 1}, {1, 5}, {27, 5}, {1, 2}};
        int dots = 0;
        for (int[] row : rows) {
            c.run(row[0]);
            dots += row[0];
            Checks.due("STAT after " + dots + " DOTS", c.cell(248), row[1]);
        }
        Checks.due("STAT off, LY is LYC", Scenes.on(0, 252, 0).cell(248), 0);
        Checks.due("STAT on, LY is LYC", Scenes.on(1, 252, 0).cell(248), 4);
        Checks.due("STAT on, LY is not LYC", Scenes.on(1, 252, 1).cell(248), 0);
    }

    /** Looks whether bit 1 of IF, off now, is on after this many DOTS and not before. */
    private static void dueLineBit(String what, PocketConsole c, int dots) {
        if (dots > 0) {
            c.run(dots - 1);
            Checks.due("bit 1 of IF before, " + what, c.cell(245) & 2, 0);
            c.run(1);
        }
        Checks.due("bit 1 of IF, " + what, c.cell(245) & 2, 2);
    }

    /** Looks whether bit 1 of IF stays off through more than a whole picture. */
    private static void dueNoLineBit(String what, PocketConsole c) {
        c.run(400);
        Checks.due("bit 1 of IF, " + what, c.cell(245) & 2, 0);
    }

    private static void lineByMode() {
        Checks.sentence("the MODE is 0, 1, 2 and bit 3, 4, 5 is on");
        dueLineBit("MODE 1", Scenes.on(1, 252, 99, 248, 16), 28 * 8 + 1);
        dueLineBit("MODE 2", Scenes.on(1, 252, 99, 248, 32), 1);
        dueLineBit("MODE 0, before DOT 0", Scenes.on(1, 252, 99, 248, 8), 0);
        dueLineBit("MODE 0, after MODE 3", Scenes.onThen(Scenes.writeAtDot(4, 248, 8), 1, 252, 99), 17);
        dueNoLineBit("none", Scenes.on(1, 252, 99, 248, 64));
        dueNoLineBit("off", Scenes.on(254, 252, 0, 248, 120));
    }

    private static void lineByLy() {
        Checks.sentence("or LY is LYC and bit 6 is on");
        dueLineBit("LYC 0", Scenes.on(1, 252, 0, 248, 64), 0);
        dueLineBit("LYC 1", Scenes.on(1, 252, 1, 248, 64), 28 + 1);
        dueLineBit("LYC 11", Scenes.on(1, 252, 11, 248, 64), 28 * 11 + 1);
        dueNoLineBit("LYC 12", Scenes.on(1, 252, 12, 248, 64));
        dueNoLineBit("LYC 1 without bit 6", Scenes.on(1, 252, 1, 248, 0));
    }

    private static void lineGoesOn() {
        Checks.sentence("When it goes on, bit 1 of IF is on");
        // Cleared in DOT 20 while it is on by MODE 0: MODE 2 with its bit keeps it on, so it goes on again at MODE 0.
        PocketConsole c = Scenes.onThen(Scenes.writeAtDot(20, 245, 0), 1, 252, 99, 248, 8 + 32);
        c.run(21);
        Checks.due("IF cleared", c.cell(245), 0);
        dueLineBit("goes on again", c, 28 + 16 - 20);
        // Without the bit of MODE 2 it went off in between, and without that of MODE 0 it goes on at MODE 2.
        PocketConsole d = Scenes.onThen(Scenes.writeAtDot(20, 245, 0), 1, 252, 99, 248, 32);
        d.run(21);
        dueLineBit("goes on again", d, 28 - 20);
        // The other bits of IF stay.
        PocketConsole f = Scenes.on(1, 245, 29, 252, 99, 248, 32);
        f.run(1);
        Checks.due("IF with 29 before", f.cell(245), 31);
        // On through all of MODE 1: once.
        PocketConsole e = Scenes.onAt(28 * 8, Scenes.writes(245, 0), 1, 252, 99, 248, 16);
        e.run(5);
        Checks.due("IF cleared in line 8", e.cell(245), 0);
        e.run(28 * 4 - 5);
        dueDot("the end of line 11", e, 27, 11, 1);
        Checks.due("IF at the end of line 11", e.cell(245), 0);
    }

    private static void lineIsLookedAt() {
        Checks.sentence("it is looked at at the end of each turn of the video, and of each writing of a register");
        // In MODE 3 of line 0 it goes on by LYC, off and on by STAT, and IF is cleared in between.
        PocketConsole c = Scenes.onThen(Scenes.writes(252, 0, 245, 0, 248, 0, 248, 64), 1, 252, 5, 248, 64);
        c.run(2);
        Checks.due("IF before LYC is written", c.cell(245), 0);
        c.run(3);
        Checks.due("IF by writing LYC", c.cell(245), 2);
        c.run(5);
        Checks.due("IF cleared, with the LINE on", c.cell(245), 0);
        c.run(5);
        Checks.due("IF by the LINE going off", c.cell(245), 0);
        c.run(5);
        Checks.due("IF by writing STAT", c.cell(245), 2);
        // By LCDC: off and on.
        PocketConsole d = Scenes.onThen(Scenes.writes(245, 0, 247, 0, 247, 1), 1, 252, 0, 248, 64);
        d.run(10);
        Checks.due("IF cleared, and off", d.cell(245), 0);
        d.run(5);
        Checks.due("IF by switching on", d.cell(245), 2);
    }

    private static void writingLy() {
        Checks.sentence("Writing LY has no effect.");
        PocketConsole c = Scenes.onThen(Scenes.writeAtDot(30, 251, 7), 1);
        c.run(31);
        dueDot("written", c, 2, 1, 2);
        c.run(28);
        Checks.due("LY in the next line", c.cell(251), 2);
        PocketConsole d = Checks.with(Scenes.writes(251, 7));
        d.run(5);
        Checks.due("LY when off", d.cell(251), 0);
        Checks.due("the register before it", d.cell(250), 0);
        Checks.due("the register after it", d.cell(252), 0);
        Checks.due("DMA", d.cell(253), 0);
        Checks.due("cells to copy", d.timer(2), 0);
        Checks.due("IF", d.cell(245), 0);
    }

    private static void shutInModes() {
        Checks.sentence("The processor reads 255 from VIDEO in MODE 3, and from SPRITES in MODES 2 and 3, and what it writes there then is lost.");
        // In line 1: MODE 2 is DOTS 28 to 31, MODE 3 is 32 to 43, MODE 0 is 44 to 55; 224 is MODE 1, as is 335.
        int[] dots = {27, 28, 31, 32, 43, 44, 55, 56, 223, 224, 335, 336, 339, 340};
        int[] modes = {0, 2, 2, 3, 3, 0, 0, 2, 0, 1, 1, 2, 2, 3};
        for (int i = 0; i < dots.length; i++) {
            for (int a : new int[] {127, 128, 191, 192, 207, 208}) {
                boolean shut = a >= 128 && a <= 191 && modes[i] == 3 || a >= 192 && a <= 207 && modes[i] >= 2;
                Checks.due("read " + a + " in DOT " + dots[i], Scenes.readAtDot(dots[i], a), shut ? 255 : 42);
                Checks.due("written " + a + " in DOT " + dots[i], Scenes.writtenAtDot(dots[i], a), shut ? 42 : 1);
            }
        }
    }
}
