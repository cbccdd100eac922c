/** The boundary cases of "Terms", sentence by sentence: strips, the WINDOW's rows, sprites, and colours. */
public final class BoundaryPictureTest {
    private static final int TO_LINE_8 = 225;

    public static void main(String[] args) {
        stripIsUsedUp();
        stripIsNotKeptForTheNextLine();
        droppedFromTheStrip();
        stripsFrom0InTheWindow();
        tileMod8();
        leftmostPixel();
        rowsWrap();
        columnsWrap();
        stripAsItIsNow();
        windowColumns();
        windowRows();
        spriteRow();
        spriteRightToLeft();
        fetchedAsItIsNow();
        backgroundOff();
        spriteColumns();
        spritePixelOf0();
        leastXThenLeast();
        noneWithBit2Off();
        behindTheBackground();
        xAndYAsTaken();
        Checks.end();
    }

    /** The tiles t mod 4 in colour, tile 5 with the rows 0123, 3210, 1000, 0002; sprites out of all lines. */
    private static PocketConsole scene(int lcdc, int... pairs) {
        PocketConsole c = Scenes.on(lcdc, pairs);
        prepare(c);
        return c;
    }

    private static void prepare(PocketConsole c) {
        Scenes.plainTiles(c);
        Scenes.tile(c, 5, 27, 228, 64, 2);
        for (int i = 0; i < 4; i++) {
            c.put(192 + 4 * i, 255);
        }
    }

    private static void dueLine(String what, PocketConsole c, int y, String digits) {
        c.run(TO_LINE_8);
        Scenes.dueLine(what, c, y, digits);
    }

    private static void stripIsUsedUp() {
        Checks.sentence("4 if no strip is there, or it is used up, the next one (0, 1, ..; from 0 again where the WINDOW began) is fetched");
        PocketConsole c = scene(9);
        Checks.put(c, 160, 1, 2, 3, 0);
        dueLine("strips 0, 1, 2", c, 0, "111122223333");
        // The cells of the MAP are changed while a strip is used: it is fetched as it was, and the next one as it is.
        PocketConsole d = scene(9);
        Checks.put(d, 160, 1, 1, 1, 1);
        d.run(8);
        Checks.due("pixels drawn", d.video(2), 4);
        Checks.put(d, 160, 3, 2, 3, 3);
        d.run(1);
        Checks.put(d, 160, 3, 3, 3, 3);
        d.run(TO_LINE_8 - 9);
        Scenes.dueLine("strip 1 fetched for pixel 4", d, 0, "111122223333");
    }

    private static void stripIsNotKeptForTheNextLine() {
        Checks.sentence("In MODE 3 x is the pixel to be drawn, 0 at first; no strip is there");
        // With SCX 1 just one pixel of strip 3 is used: line 1 begins with strip 0 anew.
        PocketConsole c = scene(9, 250, 1);
        Checks.put(c, 160, 0, 1, 2, 3);
        c.run(TO_LINE_8);
        for (int y = 0; y < 4; y++) {
            Scenes.dueLine("SCX 1", c, y, "000111122223");
        }
    }

    private static void droppedFromTheStrip() {
        Checks.sentence("if pixels are to be dropped: its next one is dropped; else pixel x is drawn, with the strip's next one, and x is 1 more");
        String row = "0123012301230123";
        for (int scx = 0; scx < 4; scx++) {
            PocketConsole c = scene(9, 250, scx);
            Checks.put(c, 160, 5, 5, 5, 5);
            dueLine("SCX " + scx, c, 0, row.substring(scx, scx + 12));
        }
    }

    private static void stripsFrom0InTheWindow() {
        Checks.sentence("from 0 again where the WINDOW began");
        PocketConsole c = scene(11, 255, 7);
        Checks.put(c, 160, 1, 1, 1, 1);
        Checks.put(c, 176, 2, 3, 0, 0);
        dueLine("the WINDOW at 7", c, 0, "111111122223");
        PocketConsole d = scene(11, 255, 11);
        Checks.put(d, 160, 1, 1, 1, 1);
        Checks.put(d, 176, 2, 3, 0, 0);
        dueLine("the WINDOW at 11", d, 0, "111111111112");
    }

    private static void tileMod8() {
        Checks.sentence("A TILE t (mod 8) has four rows, cells 128 + 4 t + row, of four pixels (0..3)");
        PocketConsole c = scene(9);
        Checks.put(c, 160, 7, 8, 255, 0);
        dueLine("tiles 7, 8, 255", c, 0, "333300003333");
        PocketConsole d = scene(11, 255, 0);
        Checks.put(d, 176, 7, 8, 254, 0);
        dueLine("tiles 7, 8, 254 in the WINDOW", d, 0, "333300002222");
        PocketConsole e = scene(5);
        Checks.put(e, 192, 0, 0, 255, 0, 0, 6, 10, 0);
        dueLine("tiles 255 and 10 of sprites", e, 0, "777700666600");
    }

    private static void leftmostPixel() {
        Checks.sentence("bits 7 and 6 the leftmost");
        PocketConsole c = scene(9);
        Scenes.tile(c, 0, 192, 3, 48, 12);
        c.run(TO_LINE_8);
        Scenes.dueLine("192", c, 0, "300030003000");
        Scenes.dueLine("3", c, 1, "000300030003");
        Scenes.dueLine("48", c, 2, "030003000300");
        Scenes.dueLine("12", c, 3, "003000300030");
    }

    private static void rowsWrap() {
        Checks.sentence("Strip k: with v = LY + SCY, tile from cell 160 + 4 * (v / 4 mod 4) + (SCX / 4 + k) mod 4, row v mod 4");
        // v is 255 in line 0, the last row of the MAP's last row of tiles; 256 in line 1, the first of all.
        PocketConsole c = scene(9, 249, 255);
        for (int i = 160; i < 176; i++) {
            c.put(i, 0);
        }
        Checks.put(c, 160, 5, 5, 5, 5);
        Checks.put(c, 172, 5, 5, 5, 5);
        c.run(TO_LINE_8);
        Scenes.dueLine("v 255", c, 0, "000200020002");
        Scenes.dueLine("v 256", c, 1, "012301230123");
        Scenes.dueLine("v 259", c, 4, "000200020002");
        Scenes.dueLine("v 260", c, 5, "000000000000");
        PocketConsole d = scene(9, 249, 8);
        Checks.put(d, 172, 5, 5, 5, 5);
        d.run(TO_LINE_8);
        Scenes.dueLine("v 11", d, 3, "000000000000");
        Scenes.dueLine("v 12", d, 4, "012301230123");
        Scenes.dueLine("v 15", d, 7, "000200020002");
    }

    private static void columnsWrap() {
        // SCX 15: three pixels of column 3 are dropped, then columns 0, 1 and 2 follow.
        PocketConsole c = scene(9, 250, 15);
        Checks.put(c, 160, 1, 2, 3, 0);
        dueLine("SCX 15", c, 0, "011112222333");
        PocketConsole d = scene(9, 250, 255);
        Checks.put(d, 160, 1, 2, 3, 0);
        dueLine("SCX 255", d, 0, "011112222333");
        PocketConsole e = scene(9, 250, 16);
        Checks.put(e, 160, 1, 2, 3, 0);
        dueLine("SCX 16", e, 0, "111122223333");
        // SCX 3: strips 0 to 3, the last with all its pixels.
        PocketConsole f = scene(9, 250, 3);
        Checks.put(f, 160, 1, 2, 3, 5);
        dueLine("SCX 3", f, 0, "122223333012");
    }

    private static void stripAsItIsNow() {
        Checks.sentence("all as it is now");
        // SCX 4 written in the cycle of DOT 7 or 8: strip 1 is fetched in DOT 8, before the processor's turn.
        for (int late = 0; late < 2; late++) {
            PocketConsole c = Scenes.onThen(Scenes.writeAtDot(7 + late, 250, 4), 9);
            prepare(c);
            Checks.put(c, 160, 0, 1, 2, 3);
            dueLine("SCX at DOT " + (7 + late), c, 0, late == 0 ? "000022223333" : "000011113333");
            PocketConsole d = Scenes.onThen(Scenes.writeAtDot(7 + late, 249, 1), 9);
            prepare(d);
            Checks.put(d, 160, 5, 5, 5, 5);
            dueLine("SCY at DOT " + (7 + late), d, 0, late == 0 ? "012332103210" : "012301233210");
        }
    }

    private static void windowColumns() {
        Checks.sentence("in the WINDOW: tile from cell 176 + 4 * (w / 4 mod 4) + k mod 4, row w mod 4");
        // SCX and SCY are nothing to it.
        PocketConsole c = scene(11, 255, 0, 250, 6, 249, 7);
        Checks.put(c, 176, 1, 2, 3, 0);
        dueLine("the WINDOW at 0", c, 0, "111122223333");
    }

    private static void windowRows() {
        Checks.sentence("w is how many lines of this picture before had it begin");
        PocketConsole c = scene(11, 255, 0, 254, 1);
        Checks.put(c, 176, 5, 5, 5, 5, 1, 2, 3, 0);
        c.run(TO_LINE_8);
        Scenes.dueLine("before it", c, 0, "000000000000");
        Scenes.dueLine("w 0", c, 1, "012301230123");
        Scenes.dueLine("w 3", c, 4, "000200020002");
        Scenes.dueLine("w 4", c, 5, "111122223333");
        Scenes.dueLine("w 6", c, 7, "111122223333");
        c.run(336);
        Scenes.dueLine("w 0 in the next picture", c, 1, "012301230123");
        // A line where x never was WX is not one of them: WX is 12 from the end of line 0 to that of line 1.
        int[] program = new int[60];
        System.arraycopy(new int[] {16, 12, 14, 255}, 0, program, 20, 4);
        System.arraycopy(new int[] {16, 0, 14, 255, 1}, 0, program, 48, 5);
        PocketConsole d = Scenes.onThen(program, 11, 255, 0);
        prepare(d);
        Checks.put(d, 176, 5, 5, 5, 5);
        d.run(TO_LINE_8);
        Scenes.dueLine("w 0", d, 0, "012301230123");
        Scenes.dueLine("without", d, 1, "000000000000");
        Scenes.dueLine("w 1", d, 2, "321032103210");
    }

    private static void spriteRow() {
        Checks.sentence("A sprite's row is LY - y (as it was TAKEN), 3 less that if bit 1 of look is on");
        for (int look : new int[] {0, 2, 248, 250}) {
            PocketConsole c = scene(5);
            Checks.put(c, 192, 2, 4, 5, look);
            c.run(TO_LINE_8);
            String[] rows = {"000005670000", "000076500000", "000050000000", "000000060000"};
            Scenes.dueLine("above", c, 1, "000000000000");
            for (int row = 0; row < 4; row++) {
                Scenes.dueLine("look " + look, c, 2 + row, rows[(look & 2) == 0 ? row : 3 - row]);
            }
            Scenes.dueLine("below", c, 6, "000000000000");
        }
    }

    private static void spriteRightToLeft() {
        Checks.sentence("pixels from right to left if bit 0 is");
        for (int look : new int[] {1, 3, 249}) {
            PocketConsole c = scene(5);
            Checks.put(c, 192, 0, 4, 5, look);
            c.run(TO_LINE_8);
            String[] rows = {"000076500000", "000005670000", "000000050000", "000060000000"};
            for (int row = 0; row < 4; row++) {
                Scenes.dueLine("look " + look, c, row, rows[(look & 2) == 0 ? row : 3 - row]);
            }
        }
        // Each pixel by itself.
        for (int colour = 1; colour < 4; colour++) {
            PocketConsole c = scene(5);
            Scenes.tile(c, 5, colour, colour * 4, colour * 16, colour * 64);
            Checks.put(c, 192, 0, 0, 5, 1);
            c.run(TO_LINE_8);
            for (int row = 0; row < 4; row++) {
                String zeros = "0".repeat(row);
                Scenes.dueLine("one pixel", c, row, zeros + (4 + colour) + "0".repeat(11 - row));
            }
        }
    }

    private static void fetchedAsItIsNow() {
        Checks.sentence("its four pixels, from its tile and look as they are now");
        // Fetched in DOT 7: put before it, or after it.
        for (int late = 0; late < 2; late++) {
            PocketConsole c = scene(5);
            Checks.put(c, 192, 0, 3, 1, 0);
            c.run(7 + late);
            Checks.put(c, 194, 5, 1);
            Scenes.tile(c, 1, 170, 170, 170, 170);
            c.run(TO_LINE_8 - 7 - late);
            Scenes.dueLine("put before DOT " + (7 + late), c, 0, late == 0 ? "000765000000" : "000555500000");
        }
    }

    private static void backgroundOff() {
        Checks.sentence("the background is the strip's pixel, or 0 if bit 3 of LCDC is off");
        for (int lcdc : new int[] {1, 9, 241, 249}) {
            PocketConsole c = scene(lcdc);
            Checks.put(c, 160, 1, 2, 3, 0);
            dueLine("LCDC " + lcdc, c, 0, (lcdc & 8) == 0 ? "000000000000" : "111122223333");
        }
    }

    private static void spriteColumns() {
        Checks.sentence("Of the fetched sprites for which x - X is 0..3");
        String[] rows = {"555500000000", "055550000000", "000000005555", "000000000555", "000000000005", "000000000000"};
        int[] xs = {0, 1, 8, 9, 11, 12};
        for (int i = 0; i < xs.length; i++) {
            PocketConsole c = scene(5);
            Checks.put(c, 192, 0, xs[i], 1, 0);
            dueLine("X " + xs[i], c, 0, rows[i]);
        }
        // Beyond the right end there is no left end: 255 is not -1.
        PocketConsole c = scene(5);
        Checks.put(c, 192, 0, 255, 1, 0, 0, 253, 1, 0);
        dueLine("X 255 and 253", c, 0, "000000000000");
    }

    private static void spritePixelOf0() {
        Checks.sentence("and their pixel there is not 0");
        PocketConsole c = scene(13);
        Checks.put(c, 160, 2, 2, 2, 2);
        Checks.put(c, 192, 0, 3, 5, 0, 0, 3, 1, 0);
        dueLine("another sprite under it", c, 0, "222556722222");
        PocketConsole d = scene(13);
        Checks.put(d, 160, 2, 2, 2, 2);
        Checks.put(d, 192, 0, 3, 5, 0);
        dueLine("the background under it", d, 0, "222256722222");
    }

    private static void leastXThenLeast() {
        Checks.sentence("the one with the least X counts, of these the least");
        int[][] xs = {{3, 4}, {4, 3}, {3, 3}, {3, 6}, {3, 7}, {6, 3}, {2, 0}, {0, 0}};
        String[] rows = {"000555560000", "000666650000", "000555500000", "000555566600", "000555566660", "000666655500",
            "666655000000", "555500000000"};
        for (int i = 0; i < xs.length; i++) {
            PocketConsole c = scene(5);
            Checks.put(c, 192, 0, xs[i][0], 1, 0, 0, xs[i][1], 2, 0);
            dueLine("X " + xs[i][0] + " and " + xs[i][1], c, 0, rows[i]);
        }
    }

    private static void noneWithBit2Off() {
        Checks.sentence("(none if bit 2 of LCDC is off)");
        // Fetched in DOT 4; off from DOT 5 to DOT 8, so that pixels 0 to 2 (DOTS 6 to 8) have none, and 3 has it.
        PocketConsole c = Scenes.onThen(new int[] {18, 247, 16, 1, 27, 19, 5, 1}, 5);
        prepare(c);
        Checks.put(c, 192, 0, 0, 1, 0);
        dueLine("off and on", c, 0, "000500000000");
        // Off from DOT 7 to DOT 12, where x is 7: the one at 5 is not fetched, and none of it is seen later.
        PocketConsole d = Scenes.onThen(new int[] {16, 1, 0, 0, 0, 14, 247, 16, 5, 14, 247, 1}, 5);
        prepare(d);
        Checks.put(d, 192, 0, 0, 1, 0, 0, 5, 2, 0);
        d.run(13);
        Checks.due("x in DOT 12", d.video(2), 7);
        d.run(TO_LINE_8 - 13);
        Scenes.dueLine("off where it was to be fetched", d, 0, "550000000000");
        // The same in line 1, after it was fetched in line 0: what was fetched then is not seen any more.
        int[] program = new int[40];
        System.arraycopy(new int[] {18, 247, 16, 1}, 0, program, 0, 4);
        // Off in DOT 8 of line 1, on in its DOT 11.
        System.arraycopy(new int[] {27, 19, 5, 1}, 0, program, 28 + 7, 4);
        PocketConsole e = Scenes.onThen(program, 5);
        prepare(e);
        Checks.put(e, 192, 0, 5, 2, 0);
        e.run(TO_LINE_8);
        Scenes.dueLine("fetched in line 0", e, 0, "000006666000");
        Scenes.dueLine("not fetched in line 1", e, 1, "000000000000");
        Scenes.dueLine("fetched in line 2", e, 2, "000006666000");
    }

    private static void behindTheBackground() {
        Checks.sentence("or bit 2 of its look (as it was fetched) is on and the background is not 0");
        for (int look : new int[] {0, 1, 4, 5, 248, 252}) {
            PocketConsole c = scene(13);
            Checks.put(c, 160, 5, 5, 5, 5);
            Checks.put(c, 192, 0, 2, 1, look);
            dueLine("look " + look, c, 0, (look & 4) == 0 ? "015555230123" : "012351230123");
        }
        // Put after it was fetched, it is too late.
        PocketConsole c = scene(13);
        Checks.put(c, 160, 5, 5, 5, 5);
        Checks.put(c, 192, 0, 2, 1, 0);
        c.run(7);
        c.put(195, 4);
        c.run(TO_LINE_8 - 7);
        Scenes.dueLine("look put after it was fetched", c, 0, "015555230123");
        // The one that counts is behind, and hides the other that is not.
        PocketConsole d = scene(13);
        Checks.put(d, 160, 5, 5, 5, 5);
        Checks.put(d, 192, 0, 2, 1, 4, 0, 3, 2, 0);
        dueLine("behind, and one that is not", d, 0, "012351630123");
    }

    private static void xAndYAsTaken() {
        Checks.sentence("(X and y are those of when it was TAKEN.)");
        // TAKEN in DOT 0; put after that, both count in the next line alone.
        PocketConsole c = scene(5);
        Checks.put(c, 192, 0, 3, 5, 0);
        c.run(1);
        Checks.put(c, 192, 255, 7);
        c.run(8);
        Checks.put(c, 192, 1, 6);
        c.run(TO_LINE_8 - 9);
        Scenes.dueLine("as TAKEN", c, 0, "000056700000");
        Scenes.dueLine("as put later", c, 1, "000000056700");
    }
}
