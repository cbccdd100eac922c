/** Promises 11 and 12: pixel and picture, and how a picture is drawn. */
public final class PictureTest {
    private static final int TO_LINE_8 = 225;

    public static void main(String[] args) {
        refusesOthers();
        background();
        scrolls();
        tilesAreMod8();
        window();
        windowRows();
        sprites();
        spriteLooks();
        spritesOverSprites();
        spritesBehind();
        twoOfTheirOwn();
        atMostTwo();
        whatIsKeptOfSprites();
        writingInTheMiddle();
        shownWhenComplete();
        pictureNumber();
        pictureWraps();
        Checks.end();
    }

    private static void refusesOthers() {
        PocketConsole c = patterned(9);
        c.run(TO_LINE_8);
        int[][] wrong = {{-1, 0}, {12, 0}, {0, -1}, {0, 8}, {Integer.MIN_VALUE, 0}, {0, Integer.MAX_VALUE},
            {Integer.MAX_VALUE, Integer.MAX_VALUE}, {-12, 1}, {24, -1}};
        for (int[] at : wrong) {
            Checks.due("pixel(" + at[0] + ", " + at[1] + ")", c.pixel(at[0], at[1]), -1);
        }
        Checks.due("pixel(11, 7)", c.pixel(11, 7), 2);
    }

    /** Tile 1 has rows 0123, 3210, 1111, 2222, and is all over the map. */
    private static PocketConsole patterned(int lcdc, int... pairs) {
        PocketConsole c = Scenes.on(lcdc, pairs);
        Scenes.tile(c, 1, 27, 228, 85, 170);
        for (int a = 160; a < 176; a++) {
            c.put(a, 1);
        }
        for (int i = 0; i < 4; i++) {
            c.put(192 + 4 * i, 255);
        }
        return c;
    }

    private static void background() {
        PocketConsole c = patterned(9);
        c.run(TO_LINE_8);
        String[] rows = {"012301230123", "321032103210", "111111111111", "222222222222"};
        for (int y = 0; y < 8; y++) {
            Scenes.dueLine("background", c, y, rows[y % 4]);
        }
        PocketConsole d = patterned(1);
        d.run(TO_LINE_8);
        Scenes.dueLine("no background", d, 2, "000000000000");
    }

    private static void scrolls() {
        int[][] scx = {{1, 1}, {2, 2}, {3, 3}, {4, 0}, {253, 1}};
        String row = "0123012301230123";
        for (int[] pair : scx) {
            PocketConsole c = patterned(9, 250, pair[0]);
            c.run(TO_LINE_8);
            Scenes.dueLine("SCX " + pair[0], c, 0, row.substring(pair[1], pair[1] + 12));
        }
        // Columns 0 to 3 of each row of the map have colours 0 to 3; 5 begins with the second pixel of column 1.
        for (int[] pair : new int[][] {{5, 5}, {14, 14}, {16, 0}, {255, 15}}) {
            PocketConsole c = Scenes.on(9, 250, pair[0]);
            Scenes.plainTiles(c);
            Checks.put(c, 160, 0, 1, 2, 3);
            c.run(TO_LINE_8);
            Scenes.dueLine("SCX " + pair[0], c, 0, "00001111222233330000111122223333".substring(pair[1], pair[1] + 12));
        }
        // Rows 0 to 3 of the map have colours 1, 2, 3, 0.
        for (int scy : new int[] {0, 3, 5, 10, 15, 16, 255}) {
            PocketConsole c = Scenes.on(9, 249, scy);
            Scenes.plainTiles(c);
            for (int i = 0; i < 16; i++) {
                c.put(160 + i, i / 4 + 1);
            }
            c.run(TO_LINE_8);
            for (int y = 0; y < 8; y++) {
                Checks.due("line " + y + " with SCY " + scy, c.pixel(6, y), ((y + scy) / 4 + 1) % 4);
            }
        }
        PocketConsole c = patterned(9, 249, 2);
        c.run(TO_LINE_8);
        Scenes.dueLine("SCY 2", c, 3, "321032103210");
    }

    private static void tilesAreMod8() {
        PocketConsole c = Scenes.on(9);
        Scenes.plainTiles(c);
        Scenes.tile(c, 7, 27, 0, 0, 0);
        Checks.put(c, 160, 7, 15, 255, 9);
        c.run(TO_LINE_8);
        Scenes.dueLine("tiles mod 8", c, 0, "012301230123");
        PocketConsole d = Scenes.on(11, 255, 4);
        Scenes.plainTiles(d);
        Checks.put(d, 176, 10, 255);
        d.run(TO_LINE_8);
        Scenes.dueLine("tiles mod 8 in the WINDOW", d, 0, "000022223333");
    }

    private static PocketConsole windowed(int lcdc, int... pairs) {
        PocketConsole c = Scenes.on(lcdc, pairs);
        Scenes.plainTiles(c);
        Checks.put(c, 176, 1, 2, 3, 0, 3, 3, 3, 3, 2, 2, 2, 2);
        for (int i = 0; i < 4; i++) {
            c.put(192 + 4 * i, 255);
        }
        return c;
    }

    private static void window() {
        PocketConsole c = windowed(11, 255, 5, 254, 2);
        c.run(TO_LINE_8);
        for (int y = 0; y < 8; y++) {
            Scenes.dueLine("WINDOW", c, y, y < 2 ? "000000000000" : y < 6 ? "000001111222" : "000003333333");
        }
        // From the left, with SCX: nothing is dropped, and SCX and SCY do not move it.
        PocketConsole d = windowed(11, 255, 0, 250, 7, 249, 9);
        d.run(TO_LINE_8);
        Scenes.dueLine("WINDOW at 0", d, 0, "111122223333");
        Scenes.dueLine("WINDOW at 0", d, 7, "333333333333");
        PocketConsole e = windowed(9, 255, 0);
        e.run(TO_LINE_8);
        Scenes.dueLine("no WINDOW", e, 0, "000000000000");
        PocketConsole f = windowed(3, 255, 0);
        f.run(TO_LINE_8);
        Scenes.dueLine("WINDOW without background", f, 0, "000000000000");
    }

    private static void windowRows() {
        // w is the row: tile 1 has four rows. WY 3: line 3 is row 0.
        PocketConsole c = Scenes.on(11, 255, 2, 254, 3);
        Scenes.tile(c, 1, 27, 228, 85, 170);
        for (int i = 176; i < 192; i++) {
            c.put(i, 1);
        }
        c.run(TO_LINE_8);
        Scenes.dueLine("w 0", c, 3, "000123012301");
        Scenes.dueLine("w 1", c, 4, "003210321032");
        Scenes.dueLine("w 2", c, 5, "001111111111");
        Scenes.dueLine("w 3", c, 6, "002222222222");
        Scenes.dueLine("w 4", c, 7, "000123012301");
        // Lines without it do not count: LCDC 9 in MODE 0 of line 0, LCDC 11 again in MODE 0 of line 2.
        int[] program = new int[100];
        System.arraycopy(new int[] {16, 9, 14, 247}, 0, program, 20, 4);
        System.arraycopy(new int[] {16, 11, 14, 247, 1}, 0, program, 75, 5);
        PocketConsole d = Scenes.onThen(program, 11, 255, 2);
        Scenes.tile(d, 1, 27, 228, 85, 170);
        for (int i = 176; i < 192; i++) {
            d.put(i, 1);
        }
        d.run(TO_LINE_8);
        Scenes.dueLine("w 0", d, 0, "000123012301");
        Scenes.dueLine("without", d, 1, "000000000000");
        Scenes.dueLine("without", d, 2, "000000000000");
        Scenes.dueLine("w 1", d, 3, "003210321032");
        Scenes.dueLine("w 2", d, 4, "001111111111");
        // The map's columns and rows, all different: 1 2 3 0, then 2 3 0 1.
        PocketConsole e = windowed(11, 255, 1);
        Checks.put(e, 180, 2, 3, 0, 1);
        e.run(TO_LINE_8);
        Scenes.dueLine("the map's first row", e, 3, "011112222333");
        Scenes.dueLine("the map's second row", e, 4, "022223333000");
        // The next picture begins with w 0 again.
        d.run(336);
        Scenes.dueLine("w 0 in the next picture", d, 0, "000123012301");
    }

    private static void sprites() {
        PocketConsole c = patterned(5);
        Checks.put(c, 192, 2, 3, 1, 0);
        c.run(TO_LINE_8);
        String[] rows = {"000000000000", "000000000000", "000056700000", "000765000000", "000555500000", "000666600000",
            "000000000000", "000000000000"};
        for (int y = 0; y < 8; y++) {
            Scenes.dueLine("sprite", c, y, rows[y]);
        }
        // At the right edge it is cut, beyond it is not there; the tile is mod 8.
        PocketConsole d = patterned(5);
        Checks.put(d, 192, 0, 10, 9, 0, 4, 12, 1, 0);
        d.run(TO_LINE_8);
        Scenes.dueLine("sprite at 10", d, 1, "000000000076");
        Scenes.dueLine("sprite at 12", d, 5, "000000000000");
        // Its pixels of 0 leave the background.
        PocketConsole e = patterned(13);
        Checks.put(e, 192, 0, 5, 1, 0);
        e.run(TO_LINE_8);
        Scenes.dueLine("sprite over background", e, 0, "012301567123");
        PocketConsole f = patterned(9);
        Checks.put(f, 192, 0, 5, 1, 0);
        f.run(TO_LINE_8);
        Scenes.dueLine("sprite without its bit", f, 0, "012301230123");
    }

    private static void spriteLooks() {
        String[][] rows = {
            {"000056700000", "000765000000", "000555500000", "000666600000"},
            {"000765000000", "000056700000", "000555500000", "000666600000"},
            {"000666600000", "000555500000", "000765000000", "000056700000"},
            {"000666600000", "000555500000", "000056700000", "000765000000"}};
        for (int look = 0; look < 4; look++) {
            for (int more : new int[] {0, 4, 248}) {
                PocketConsole c = patterned(5);
                Checks.put(c, 192, 1, 3, 1, look + more);
                c.run(TO_LINE_8);
                for (int row = 0; row < 4; row++) {
                    Scenes.dueLine("look " + (look + more), c, 1 + row, rows[look][row]);
                }
            }
        }
    }

    private static void spritesOverSprites() {
        // Tile 2 is all 1, tile 3 all 2: 5 and 6. The least X is in front, whichever number it has.
        int[][] places = {{4, 2}, {2, 4}, {3, 3}, {3, 7}};
        String[] rows = {"006666550000", "005555660000", "000555500000", "000555566660"};
        for (int i = 0; i < 4; i++) {
            PocketConsole c = patterned(5);
            Scenes.tile(c, 2, 85, 85, 85, 85);
            Scenes.tile(c, 3, 170, 170, 170, 170);
            Checks.put(c, 192, 0, places[i][0], 2, 0, 0, places[i][1], 3, 0);
            c.run(TO_LINE_8);
            Scenes.dueLine("sprites at " + places[i][0] + " and " + places[i][1], c, 0, rows[i]);
        }
        // Where the one in front is 0 the other is seen: tile 1's row 0 is 0123.
        PocketConsole c = patterned(5);
        Scenes.tile(c, 2, 85, 85, 85, 85);
        Checks.put(c, 192, 0, 3, 1, 0, 0, 3, 2, 0);
        c.run(TO_LINE_8);
        Scenes.dueLine("through a pixel of 0", c, 0, "000556700000");
    }

    private static void spritesBehind() {
        // Background 0123; the sprite is all 1: behind, it is seen where the background is 0.
        PocketConsole c = patterned(13);
        Scenes.tile(c, 2, 85, 85, 85, 85);
        Checks.put(c, 192, 0, 3, 2, 4);
        c.run(TO_LINE_8);
        Scenes.dueLine("behind", c, 0, "012351230123");
        // The one that counts is behind: the background is seen, not the other sprite.
        PocketConsole d = patterned(13);
        Scenes.tile(d, 2, 85, 85, 85, 85);
        Scenes.tile(d, 3, 170, 170, 170, 170);
        Checks.put(d, 192, 0, 4, 3, 0, 0, 3, 2, 4);
        d.run(TO_LINE_8);
        Scenes.dueLine("behind, and the other", d, 0, "012351260123");
        // With the background off, there is nothing to be behind of.
        PocketConsole e = patterned(5);
        Scenes.tile(e, 2, 85, 85, 85, 85);
        Checks.put(e, 192, 0, 3, 2, 4);
        e.run(TO_LINE_8);
        Scenes.dueLine("behind nothing", e, 0, "000555500000");
    }

    private static void twoOfTheirOwn() {
        // Two sprites with rows, looks and places of their own; tile 2 has rows 1232, 3111, 2223, 1321.
        PocketConsole c = patterned(13);
        Scenes.tile(c, 2, 110, 213, 171, 121);
        Checks.put(c, 192, 1, 1, 2, 0, 0, 6, 2, 7);
        c.run(TO_LINE_8);
        // Line 0: the second one alone, row 3 from right to left (1231), behind 0123..: seen at x 8.
        Scenes.dueLine("the second alone", c, 0, "012301237123");
        // Line 1: the first one's row 0 (5676); the second one's row 2 from right to left (3222), seen at x 7.
        Scenes.dueLine("both", c, 1, "356762163210");
        PocketConsole d = patterned(13);
        Scenes.tile(d, 2, 110, 213, 171, 121);
        Checks.put(d, 192, 0, 6, 2, 4, 0, 1, 2, 0);
        d.run(TO_LINE_8);
        // Line 0: the first behind (1232 at 6 to 9, seen where the background is 0: x 8), the second in front at 1.
        Scenes.dueLine("the other way", d, 0, "056761237123");
    }

    private static void atMostTwo() {
        PocketConsole c = patterned(5);
        Scenes.tile(c, 2, 85, 85, 85, 85);
        Checks.put(c, 192, 9, 0, 2, 0, 0, 8, 2, 0, 0, 4, 2, 0, 0, 0, 2, 0);
        c.run(TO_LINE_8);
        Scenes.dueLine("two of three", c, 0, "000055555555");
    }

    private static void whatIsKeptOfSprites() {
        // y and X are those of when it was TAKEN, here at DOT 0; tile and look those of when it is fetched, at DOT 7.
        PocketConsole c = patterned(5);
        Checks.put(c, 192, 0, 3, 0, 0);
        c.run(5);
        Checks.put(c, 192, 250, 9, 1, 1);
        c.run(TO_LINE_8 - 5);
        Scenes.dueLine("put after it was TAKEN", c, 0, "000765000000");
        // After it was fetched nothing of it matters any more.
        PocketConsole d = patterned(13);
        Checks.put(d, 192, 0, 3, 1, 0);
        d.run(8);
        Checks.due("x when it is fetched", d.video(2), 3);
        Checks.put(d, 192, 250, 9, 0, 7);
        Scenes.tile(d, 1, 0, 0, 0, 0);
        d.run(TO_LINE_8 - 8);
        Scenes.dueLine("put after it was fetched", d, 0, "012356700000");
    }

    private static void writingInTheMiddle() {
        // Pixels 0 to 3 are DOTS 4 to 7, 4 to 7 are 8 to 11. SCY 2 (all 1) written in DOT 7 is in time for strip 1.
        String[] rows = {"012311111111", "012301231111"};
        for (int late = 0; late < 2; late++) {
            PocketConsole c = Scenes.onThen(Scenes.writeAtDot(7 + late, 249, 2), 9);
            fillPattern(c);
            c.run(TO_LINE_8);
            Scenes.dueLine("SCY at DOT " + (7 + late), c, 0, rows[late]);
        }
        // SCX in the middle moves columns, not the pixels to be dropped: 7 written in DOT 9, in strip 1.
        PocketConsole c = Scenes.onThen(Scenes.writeAtDot(9, 250, 7), 9);
        Scenes.plainTiles(c);
        Checks.put(c, 160, 0, 1, 2, 3);
        c.run(TO_LINE_8);
        Scenes.dueLine("SCX at DOT 9", c, 0, "000011113333");
        // The background's bit counts pixel by pixel: off from DOT 10 on, which is pixel 6.
        PocketConsole d = Scenes.onThen(Scenes.writeAtDot(9, 247, 1), 9, 249, 2);
        fillPattern(d);
        d.run(TO_LINE_8);
        Scenes.dueLine("background off at DOT 9", d, 0, "111111000000");
        // The sprites' bit, too: the sprite at 0 takes DOTS 4 and 5, so DOT 7 is pixel 1, and 8 has none.
        PocketConsole e = Scenes.onThen(Scenes.writeAtDot(7, 247, 1), 5);
        fillPattern(e);
        Scenes.tile(e, 2, 85, 85, 85, 85);
        Checks.put(e, 192, 0, 0, 2, 0);
        e.run(TO_LINE_8);
        Scenes.dueLine("sprites off at DOT 7", e, 0, "550000000000");
        // The WINDOW goes on when its bit goes off, once it has begun.
        PocketConsole f = Scenes.onThen(Scenes.writeAtDot(9, 247, 9), 11, 255, 2);
        Scenes.plainTiles(f);
        Checks.put(f, 176, 1, 2, 3, 0);
        f.run(TO_LINE_8);
        Scenes.dueLine("WINDOW off at DOT 9", f, 0, "001111222233");
        Scenes.dueLine("WINDOW off at DOT 9", f, 1, "000000000000");
        // WX that comes too late: x is beyond it.
        PocketConsole g = Scenes.onThen(Scenes.writeAtDot(9, 255, 5), 11, 255, 20);
        Scenes.plainTiles(g);
        Checks.put(g, 176, 1, 2, 3, 0);
        g.run(TO_LINE_8);
        Scenes.dueLine("WX too late", g, 0, "000000000000");
        Scenes.dueLine("WX in the next line", g, 1, "000001111222");
        PocketConsole h = Scenes.onThen(Scenes.writeAtDot(8, 255, 5), 11, 255, 20);
        Scenes.plainTiles(h);
        Checks.put(h, 176, 1, 2, 3, 0);
        h.run(TO_LINE_8);
        Scenes.dueLine("WX in time", h, 0, "000001111222");
        twoWindows();
        spriteSwitchedOnTooLate();
    }

    private static void spriteSwitchedOnTooLate() {
        // Sprites on from DOT 9 on, with x 5 to be drawn: the one at 4 was not fetched, so it is not seen; that at 6 is.
        PocketConsole c = Scenes.onThen(Scenes.writeAtDot(8, 247, 5), 1);
        fillPattern(c);
        Scenes.tile(c, 2, 85, 85, 85, 85);
        Checks.put(c, 192, 0, 4, 2, 0, 0, 6, 2, 0);
        c.run(28);
        Checks.due("TAKEN", c.video(3), 2);
        c.run(TO_LINE_8 - 28);
        Scenes.dueLine("sprites on at DOT 8", c, 0, "000000555500");
    }

    private static void twoWindows() {
        // It begins once in a line, even if x gets to a new WX: 2 at first, 8 from DOT 9 on.
        PocketConsole c = Scenes.onThen(Scenes.writeAtDot(9, 255, 8), 11, 255, 2);
        Scenes.plainTiles(c);
        Checks.put(c, 176, 1, 2, 3, 0);
        c.run(28);
        Checks.due("windows", c.video(4), 1);
        c.run(TO_LINE_8 - 28);
        Scenes.dueLine("WX once more", c, 0, "001111222233");
    }

    private static void fillPattern(PocketConsole c) {
        Scenes.tile(c, 1, 27, 228, 85, 170);
        for (int a = 160; a < 176; a++) {
            c.put(a, 1);
        }
        for (int i = 0; i < 4; i++) {
            c.put(192 + 4 * i, 255);
        }
    }

    private static void shownWhenComplete() {
        PocketConsole c = patterned(9);
        c.run(224);
        Checks.due("picture before line 8", c.picture(), 0);
        Checks.due("pixel(3, 0) before line 8", c.pixel(3, 0), 0);
        c.run(1);
        Checks.due("pixel(3, 0) in line 8", c.pixel(3, 0), 3);
        long first = c.picture();
        Scenes.tile(c, 1, 255, 255, 255, 255);
        c.run(335);
        Checks.due("picture before the next line 8", c.picture(), first);
        c.run(1);
        Scenes.dueLine("the next picture", c, 0, "333333333333");
        // Off before line 8: what was drawn is never shown, and what is shown stays.
        int[] program = new int[40];
        System.arraycopy(new int[] {16, 0, 14, 247, 1}, 0, program, 30, 5);
        // LCDC 0 is written in DOT 6 of line 1, with three pixels of it drawn.
        PocketConsole d = Scenes.onThen(program, 9);
        fillPattern(d);
        d.run(500);
        Checks.due("picture of an unfinished one", d.picture(), 0);
        Checks.due("pixels drawn", d.count(6), 15);
        Checks.due("pictures", d.count(4), 0);
    }

    private static long numberOf(PocketConsole c) {
        long sum = 0;
        for (int y = 0; y < 8; y++) {
            for (int x = 0; x < 12; x++) {
                sum = sum * 31 + c.pixel(x, y);
            }
        }
        return sum;
    }

    private static void pictureNumber() {
        // Just the last pixels are not 0: in line 7, a sprite at 10 with 3 and 2 (7 and 6).
        PocketConsole c = patterned(5);
        Scenes.tile(c, 2, 228, 0, 0, 0);
        Checks.put(c, 192, 7, 10, 2, 0);
        c.run(TO_LINE_8);
        Checks.due("a small picture", c.picture(), 31 * 7 + 6);
        PocketConsole d = patterned(5);
        Scenes.tile(d, 2, 0, 0, 228, 0);
        Checks.put(d, 192, 4, 10, 2, 0);
        d.run(TO_LINE_8);
        long due = 31 * 7 + 6;
        for (int i = 0; i < 12; i++) {
            due *= 31;
        }
        Checks.due("a picture a line above", d.picture(), due);
    }

    private static void pictureWraps() {
        // The first pixel alone, 5: so many times 31 to the 95th, as longs wrap.
        PocketConsole d = patterned(5);
        Scenes.tile(d, 2, 64, 0, 0, 0);
        Checks.put(d, 192, 0, 0, 2, 0);
        d.run(TO_LINE_8);
        long due = 5;
        for (int i = 0; i < 95; i++) {
            due *= 31;
        }
        Checks.due("the first pixel alone", d.picture(), due);
        PocketConsole c = patterned(13);
        Checks.put(c, 192, 1, 1, 1, 0, 3, 6, 1, 1);
        c.run(TO_LINE_8);
        Checks.due("a full picture", c.picture(), numberOf(c));
        Checks.due("is not 0", c.picture() != 0, true);
    }
}
