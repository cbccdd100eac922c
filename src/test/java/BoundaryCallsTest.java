/** The boundary cases of the PAD and of promises 1 to 16, sentence by sentence: arguments, and what stays as it is. */
public final class BoundaryCallsTest {
    private static final int LEAST = Integer.MIN_VALUE;
    private static final int GREATEST = Integer.MAX_VALUE;

    public static void main(String[] args) {
        keysAreChosen();
        padReads();
        padBitGoesOff();
        ifKeeps();
        newObject();
        putTakes();
        putRefuses();
        resetTakes();
        resetKeeps();
        resetRefuses();
        runEnds();
        runAtTheStop();
        runRefuses();
        stopTakes();
        keysMod256();
        cellAnswers();
        cpuAnswers();
        timerAnswers();
        videoAnswers();
        pixelAnswers();
        pictureAnswers();
        countAnswers();
        countGoesOn();
        saveTakes();
        saveAgain();
        loadRefuses();
        loadBringsBack();
        imeOnAndEi();
        resetAndLoadTurnNoBitOn();
        refusedChangesNothing();
        Checks.end();
    }

    private static PocketConsole withPad(int v) {
        PocketConsole c = Checks.with(Scenes.writes(240, v));
        c.run(5);
        return c;
    }

    private static void keysAreChosen() {
        Checks.sentence("PAD: of eight keys 0..3 are chosen if bit 4 of what was written is off, 4..7 if bit 5 is.");
        for (int key = 0; key < 8; key++) {
            for (int pad : new int[] {0, 16, 32, 48}) {
                PocketConsole c = withPad(pad);
                c.keys(1 << key);
                boolean chosen = (pad & (key < 4 ? 16 : 32)) == 0;
                Checks.due("PAD " + pad + " with key " + key, c.cell(240), pad + 15 - (chosen ? 1 << key % 4 : 0));
                Checks.due("IF", c.cell(245), chosen ? 16 : 0);
            }
        }
    }

    private static void padReads() {
        Checks.sentence("It reads as these two bits (as written), and bit j is on if no chosen key j or 4 + j is down.");
        Checks.due("PAD after 255", withPad(255).cell(240), 63);
        Checks.due("PAD after 192", withPad(192).cell(240), 15);
        Checks.due("PAD after 15", withPad(15).cell(240), 15);
        PocketConsole d = withPad(207);
        d.keys(1 + 32);
        Checks.due("PAD after 207, with keys 0 and 5", d.cell(240), 12);
        PocketConsole c = withPad(0);
        c.keys(255);
        Checks.due("PAD with all down", c.cell(240), 0);
        c.keys(128);
        Checks.due("PAD with key 7", c.cell(240), 7);
        c.keys(8);
        Checks.due("PAD with key 3", c.cell(240), 7);
        c.keys(0);
        Checks.due("PAD with none", c.cell(240), 15);
    }

    private static void padBitGoesOff() {
        Checks.sentence("When such a bit j goes off, bit 4 of IF is on.");
        // IF is cleared while key 0 is down; key 4 is of the same bit, key 1 of another.
        for (int more : new int[] {0, 16, 2, 32}) {
            PocketConsole c = Checks.with(Scenes.writes(245, 0));
            c.keys(1);
            Checks.due("IF with key 0", c.cell(245), 16);
            c.run(5);
            c.keys(1 + more);
            Checks.due("IF with " + more + " more", c.cell(245), more == 2 || more == 32 ? 16 : 0);
        }
        // The other bits of IF stay.
        PocketConsole e = Checks.with(Scenes.writes(245, 15));
        e.run(5);
        e.keys(1);
        Checks.due("IF with 15 before", e.cell(245), 31);
        // One bit on and another off in one call.
        PocketConsole c = Checks.with(Scenes.writes(245, 0));
        c.keys(1);
        c.run(5);
        c.keys(2);
        Checks.due("IF with key 1 for key 0", c.cell(245), 16);
        // By writing: keys 4 to 7 get chosen while key 7 is down. Choosing others is no news.
        PocketConsole d = Checks.with(Scenes.writes(240, 48, 240, 32, 240, 16));
        d.run(5);
        d.keys(128);
        d.run(5);
        Checks.due("IF by choosing keys 0 to 3", d.cell(245), 0);
        d.run(5);
        Checks.due("IF by choosing keys 4 to 7", d.cell(245), 16);
    }

    private static void ifKeeps() {
        Checks.sentence("IF keeps bits 0 to 4.");
        for (int bit = 0; bit < 8; bit++) {
            PocketConsole c = Checks.with(Scenes.writes(245, 1 << bit));
            c.run(5);
            Checks.due("IF after bit " + bit, c.cell(245), bit < 5 ? 1 << bit : 0);
        }
    }

    private static void newObject() {
        Checks.sentence("All as said at first, and PC 0; keys up, nothing saved, no stop.");
        PocketConsole c = new PocketConsole();
        Checks.due("PC", c.cpu(4), 0);
        Checks.due("S", c.cpu(3), 240);
        Checks.due("IME", c.cpu(6), 0);
        Checks.due("the DOT", c.video(0), -1);
        Checks.due("load(0)", c.load(0), false);
        Checks.due("load(1)", c.load(1), false);
        Checks.due("stop", c.stop(0), -1);
        Checks.due("keys", c.keys(0), 0);
        Checks.sentence("240..255 REGISTERS (all 0 at first)");
        for (int a = 241; a < 256; a++) {
            Checks.due("register " + a, c.cell(a), 0);
        }
        // PAD has 0 as written, and reads with bit j on for all j, as no key is down.
        Checks.due("PAD", c.cell(240), 15);
        // Without a stop nothing ends a run before its time, at no PC: all 240 cells are 0, and then come registers.
        PocketConsole d = new PocketConsole();
        Checks.due("run(240)", d.run(240), 240);
        Checks.due("PC", d.cpu(4), 240);
    }

    private static void putTakes() {
        Checks.sentence("Cell a (0..239) becomes v (mod 256), whatever is going on.");
        int[][] rows = {{0, 0}, {255, 255}, {256, 0}, {257, 1}, {-1, 255}, {-255, 1}, {-256, 0}, {LEAST, 0}, {GREATEST, 255}};
        for (int[] row : rows) {
            for (int a : new int[] {0, 127, 128, 207, 208, 239}) {
                PocketConsole c = new PocketConsole();
                c.put(a, 77);
                Checks.due("put(" + a + ", " + row[0] + ")", c.put(a, row[0]), true);
                Checks.due("cell(" + a + ")", c.cell(a), row[1]);
            }
        }
        // While the processor is shut out by copying and by MODE 3.
        PocketConsole c = new PocketConsole();
        Checks.put(c, 208, 16, 1, 14, 247, 14, 253, 0, 0, 0);
        c.reset(208);
        c.run(11);
        Checks.due("MODE", c.video(1), 3);
        Checks.due("cells to copy", c.timer(2), 14);
        for (int a : new int[] {0, 127, 128, 191, 192, 207}) {
            Checks.due("put(" + a + ", 99)", c.put(a, 99), true);
            Checks.due("cell(" + a + ")", c.cell(a), 99);
        }
    }

    private static void putRefuses() {
        Checks.sentence("False, and nothing changes, for others.");
        for (int a : new int[] {-1, 240, 241, 245, 255, 256, 496, LEAST, GREATEST}) {
            PocketConsole c = busy();
            long before = look(c);
            Checks.due("put(" + a + ", 9)", c.put(a, 9), false);
            Checks.due("all after put(" + a + ", 9)", look(c), before);
        }
    }

    private static void resetTakes() {
        Checks.sentence("PC is this. False, and nothing changes, if it is not 0..255.");
        for (int pc : new int[] {0, 1, 254, 255}) {
            PocketConsole c = new PocketConsole();
            Checks.due("reset(" + pc + ")", c.reset(pc), true);
            Checks.due("PC", c.cpu(4), pc);
        }
    }

    private static void resetKeeps() {
        Checks.sentence("All is as at first, but for the cells 0..239, the keys, the picture that is shown, what was counted, what is saved, and the stop");
        PocketConsole c = busy();
        c.stop(200);
        c.keys(5);
        c.put(0, 33);
        c.put(239, 34);
        long picture = c.picture();
        int[] counts = new int[7];
        for (int what = 0; what < 7; what++) {
            counts[what] = c.count(what);
        }
        Checks.due("a picture is shown", picture != 0, true);
        Checks.due("reset(9)", c.reset(9), true);
        for (int what = 0; what < 7; what++) {
            Checks.due("count(" + what + ")", c.count(what), counts[what]);
        }
        Checks.due("picture", c.picture(), picture);
        Checks.due("cell 0", c.cell(0), 33);
        Checks.due("cell 239", c.cell(239), 34);
        for (int a = 240; a < 256; a++) {
            Checks.due("register " + a, c.cell(a), a == 240 ? 15 - 5 : 0);
        }
        for (int what = 0; what < 8; what++) {
            Checks.due("cpu(" + what + ")", c.cpu(what), what == 3 ? 240 : what == 4 ? 9 : 0);
        }
        for (int what = 0; what < 5; what++) {
            Checks.due("video(" + what + ")", c.video(what), what == 0 ? -1 : 0);
        }
        for (int what = 0; what < 3; what++) {
            Checks.due("timer(" + what + ")", c.timer(what), 0);
        }
        Checks.due("keys", c.keys(5), 5);
        Checks.due("stop", c.stop(-1), 200);
        Checks.due("load(1)", c.load(1), false);
        Checks.due("load(0)", c.load(0), true);
    }

    private static void resetRefuses() {
        Checks.sentence("False, and nothing changes, if it is not 0..255.");
        for (int pc : new int[] {-1, 256, 512, LEAST, GREATEST}) {
            PocketConsole c = busy();
            long before = look(c);
            Checks.due("reset(" + pc + ")", c.reset(pc), false);
            Checks.due("all after reset(" + pc + ")", look(c), before);
        }
    }

    private static void runEnds() {
        Checks.sentence("Instructions, interrupts and cycles of waiting are done as long as fewer than n cycles have passed in this call");
        PocketConsole c = Checks.with(12, 100);
        Checks.due("run(0)", c.run(0), 0);
        Checks.due("cycles", c.count(0), 0);
        Checks.due("run(1) with a CALL", c.run(1), 4);
        Checks.due("run(1) with nothing", c.run(1), 1);
        // A CALL that begins when 3 have passed: run(3) does not do it, run(4) does.
        PocketConsole d = Checks.with(0, 0, 0, 12, 100);
        Checks.due("run(3)", d.run(3), 3);
        PocketConsole e = Checks.with(0, 0, 0, 12, 100);
        Checks.due("run(4)", e.run(4), 7);
        // An INTERRUPT, and a cycle of waiting.
        PocketConsole f = Checks.with(Scenes.writes(246, 16));
        Checks.put(f, 4, 3, 1);
        f.run(7);
        Checks.due("run(1) waiting", f.run(1), 1);
        f.keys(1);
        Checks.due("run(1) waiting", f.run(1), 1);
        Checks.due("run(1) with an INTERRUPT", f.run(1), 3);
        // The most: 2000, and three more if the last one is a CALL that begins when 1999 have passed.
        PocketConsole g = Checks.with(1);
        Checks.due("run(2000)", g.run(2000), 2000);
        PocketConsole h = Checks.with(0, 0, 0, 0, 0, 15, 240, 12, 5);
        Checks.due("run(2000) with CALLS", h.run(2000), 2003);
    }

    private static void runAtTheStop() {
        Checks.sentence("and what comes next is not an instruction with the stop as PC (which is done all the same if it is the first thing in this call)");
        PocketConsole c = Checks.with(0, 0, 8, 0);
        c.stop(1);
        Checks.due("run to the stop", c.run(100), 1);
        Checks.due("run(0) at the stop", c.run(0), 0);
        Checks.due("run from the stop", c.run(100), 5);
        Checks.due("PC", c.cpu(4), 1);
        PocketConsole d = Checks.with(8, 0);
        d.stop(0);
        Checks.due("a jump to itself", d.run(100), 3);
        // Stops at 255 and at 0, the last and the first.
        PocketConsole e = new PocketConsole();
        e.reset(254);
        e.stop(255);
        Checks.due("the stop at 255", e.run(100), 1);
        e.stop(0);
        Checks.due("the stop at 0", e.run(100), 1);
        Checks.due("PC", e.cpu(4), 0);
        // Waiting with the stop as PC is no instruction, nor is an INTERRUPT; after them the stop counts, though it
        // is the first instruction in this call.
        PocketConsole f = Checks.with(Scenes.writes(246, 16));
        Checks.put(f, 4, 1, 0, 0);
        f.stop(5);
        Checks.due("waiting at the stop", f.run(100), 100);
        f.keys(1);
        Checks.due("woken at the stop", f.run(100), 1);
        Checks.due("PC", f.cpu(4), 5);
        PocketConsole g = Checks.with(8, 60);
        Checks.put(g, 60, Scenes.writes(246, 16));
        Checks.put(g, 64, 3, 0, 0);
        g.run(10);
        g.keys(1);
        g.stop(40);
        Checks.due("an INTERRUPT first, with the stop as what it goes to", g.run(100), 3);
        Checks.due("PC", g.cpu(4), 40);
    }

    private static void runRefuses() {
        Checks.sentence("-1 if n is not 0..2000");
        for (int n : new int[] {-1, -2000, 2001, LEAST, GREATEST}) {
            PocketConsole c = busy();
            long before = look(c);
            Checks.due("run(" + n + ")", c.run(n), -1);
            Checks.due("all after run(" + n + ")", look(c), before);
        }
    }

    private static void stopTakes() {
        Checks.sentence("The stop is at this PC; none for others than 0..255. Answers the one before, or -1.");
        int[][] rows = {{0, -1}, {255, 0}, {256, 255}, {0, -1}, {-1, 0}, {255, -1}, {LEAST, 255}, {7, -1}, {GREATEST, 7}, {9, -1}};
        PocketConsole c = new PocketConsole();
        for (int[] row : rows) {
            Checks.due("stop(" + row[0] + ")", c.stop(row[0]), row[1]);
        }
        // 256 is no other word for 0.
        PocketConsole d = Checks.with(0, 8, 0);
        d.stop(256);
        Checks.due("run(8)", d.run(8), 8);
    }

    private static void keysMod256() {
        Checks.sentence("These keys are down now, bit k for key k (mod 256). Answers those that were before.");
        int[][] rows = {{255, 0}, {256, 255}, {257, 0}, {-1, 1}, {-256, 255}, {LEAST, 0}, {GREATEST, 0}, {0, 255}};
        PocketConsole c = new PocketConsole();
        for (int[] row : rows) {
            Checks.due("keys(" + row[0] + ")", c.keys(row[0]), row[1]);
        }
    }

    private static void cellAnswers() {
        Checks.sentence("What cell a has, or a register reads as, whatever is shut off; -1 for others than 0..255.");
        PocketConsole c = Scenes.on(1, 255, 9);
        c.put(0, 16);
        c.put(128, 5);
        c.put(207, 6);
        c.put(239, 7);
        c.run(10);
        Checks.due("MODE", c.video(1), 3);
        int[][] rows = {{0, 16}, {128, 5}, {207, 6}, {239, 7}, {240, 15}, {255, 9}, {-1, -1}, {256, -1}, {LEAST, -1}, {GREATEST, -1}};
        for (int[] row : rows) {
            Checks.due("cell(" + row[0] + ")", c.cell(row[0]), row[1]);
        }
    }

    private static void cpuAnswers() {
        Checks.sentence("Of the processor what 0: A, 1: B, 2: P, 3: S, 4: PC, 5: Z + 2 K");
        PocketConsole c = Checks.with(16, 255, 28, 17, 8, 18, 9, 15, 10, 16, 7, 3);
        c.run(12);
        int[] due = {7, 8, 9, 10, 12, 2, 2, 0};
        for (int what = 0; what < 8; what++) {
            Checks.due("cpu(" + what + ")", c.cpu(what), due[what]);
        }
        for (int what : new int[] {-1, 8, LEAST, GREATEST}) {
            Checks.due("cpu(" + what + ")", c.cpu(what), -1);
        }
        Checks.sentence("5: Z + 2 K");
        int[][] flags = {{0, 1}, {1, 0}, {128, 3}, {129, 2}};
        for (int[] row : flags) {
            PocketConsole d = Checks.with(16, row[0], 28);
            d.run(3);
            Checks.due("cpu(5) of " + row[0] + " twice", d.cpu(5), row[1]);
        }
        Checks.sentence("6: 1 if IME is on, 2 if it will be by EI, else 0");
        PocketConsole e = Checks.with(3, 0, 2);
        for (int due6 : new int[] {0, 2, 1, 0}) {
            Checks.due("cpu(6)", e.cpu(6), due6);
            e.run(1);
        }
        Checks.sentence("7: 1 if it WAITS, 2 if the next first byte is read without PC being 1 more, else 0");
        PocketConsole f = Checks.with(1);
        Checks.due("cpu(7) at first", f.cpu(7), 0);
        f.run(1);
        Checks.due("cpu(7) with nothing PENDING", f.cpu(7), 1);
        PocketConsole g = Checks.with(Scenes.writes(246, 16));
        Checks.put(g, 4, 1, 0);
        g.run(5);
        g.keys(1);
        g.run(1);
        Checks.due("cpu(7) with something PENDING", g.cpu(7), 2);
        g.run(1);
        Checks.due("cpu(7) after the next instruction", g.cpu(7), 0);
    }

    private static void timerAnswers() {
        Checks.sentence("The DIVIDER (what 0); 1 if a RELOAD is due, else 0 (what 1)");
        PocketConsole c = Checks.with(Scenes.writes(242, 255, 244, 5));
        c.put(8, 1);
        c.run(11);
        Checks.due("timer(1) in cycle 11", c.timer(1), 0);
        c.run(1);
        Checks.due("timer(0)", c.timer(0), 12);
        Checks.due("timer(1) in cycle 12", c.timer(1), 1);
        c.run(1);
        Checks.due("timer(1) in cycle 13", c.timer(1), 0);
        Checks.sentence("of the copying that goes on or is to begin the cells that are to be copied still");
        PocketConsole d = Checks.with(Scenes.writes(253, 0));
        d.put(4, 1);
        Checks.due("timer(2) at first", d.timer(2), 0);
        d.run(5);
        Checks.due("timer(2) in the cycle of the writing", d.timer(2), 16);
        d.run(1);
        Checks.due("timer(2) in the cycle after it", d.timer(2), 16);
        d.run(1);
        Checks.due("timer(2) in the second one after it", d.timer(2), 15);
        d.run(14);
        Checks.due("timer(2) before the last cell", d.timer(2), 1);
        d.run(1);
        Checks.due("timer(2) after the last cell", d.timer(2), 0);
        for (int what : new int[] {-1, 3, LEAST, GREATEST}) {
            Checks.due("timer(" + what + ")", d.timer(what), -1);
        }
    }

    private static void videoAnswers() {
        Checks.sentence("the DOT done last, -1 if there was none since it is on, or it is off");
        PocketConsole c = Scenes.on(0);
        Checks.due("video(0) off", c.video(0), -1);
        PocketConsole d = Scenes.on(7, 255, 1);
        Checks.due("video(0) switched on", d.video(0), -1);
        d.run(1);
        Checks.due("video(0) after the first", d.video(0), 0);
        Checks.sentence("how many sprites are TAKEN in this line so far (0 in lines 8 to 11 and off)");
        Checks.due("video(3) in DOT 0", d.video(3), 1);
        d.run(1);
        Checks.due("video(3) in DOT 1", d.video(3), 2);
        Checks.due("video(3) off", c.video(3), 0);
        Checks.sentence("2: x, 0 but in MODE 3");
        PocketConsole e = Scenes.on(1);
        int[][] rows = {{4, 2, 0}, {1, 3, 1}, {11, 3, 12}, {1, 0, 0}, {11, 0, 0}, {1, 2, 0}, {28 * 7, 1, 0}};
        for (int[] row : rows) {
            e.run(row[0]);
            Checks.due("MODE", e.video(1), row[1]);
            Checks.due("video(2) in MODE " + row[1], e.video(2), row[2]);
        }
        Checks.sentence("in how many lines of this picture the WINDOW began so far (0 if it is off)");
        Checks.due("video(4) before", d.video(4), 0);
        d.run(26);
        Checks.due("video(4) after line 0", d.video(4), 1);
        d.run(28 * 8 - 28);
        Checks.due("video(4) after line 7", d.video(4), 8);
        Checks.due("video(3) in line 7", d.video(3), 0);
        d.put(192, 8);
        d.run(5);
        Checks.due("video(3) in line 8, though a sprite is there", d.video(3), 0);
        Checks.due("video(4) in line 8", d.video(4), 8);
        Checks.due("video(4) off", c.video(4), 0);
        for (int what : new int[] {-1, 5, LEAST, GREATEST}) {
            Checks.due("video(" + what + ")", d.video(what), -1);
            Checks.due("video(" + what + ") off", c.video(what), -1);
        }
    }

    private static void pixelAnswers() {
        Checks.sentence("Pixel x (0..11) of line y (0..7) of the picture shown: 0..7; -1 for others.");
        // The four corners have 4 more than 1, 2, 3 and 1; all else is 0.
        PocketConsole c = Scenes.on(5);
        Scenes.tile(c, 1, 64, 0, 0, 192);
        Scenes.tile(c, 2, 2, 0, 0, 1);
        Checks.put(c, 192, 0, 0, 1, 0, 0, 8, 2, 0, 4, 0, 1, 0, 4, 8, 2, 0);
        c.run(225);
        Checks.due("pixel(0, 0)", c.pixel(0, 0), 5);
        Checks.due("pixel(11, 0)", c.pixel(11, 0), 6);
        Checks.due("pixel(0, 7)", c.pixel(0, 7), 7);
        Checks.due("pixel(11, 7)", c.pixel(11, 7), 5);
        int[][] others = {{-1, 0}, {12, 0}, {0, -1}, {0, 8}, {12, 7}, {11, 8}, {-1, -1}, {12, 8}, {LEAST, 0}, {GREATEST, 0},
            {0, LEAST}, {0, GREATEST}, {-12, 1}, {24, -1}};
        for (int[] at : others) {
            Checks.due("pixel(" + at[0] + ", " + at[1] + ")", c.pixel(at[0], at[1]), -1);
        }
    }

    private static void pictureAnswers() {
        Checks.sentence("from 0, for each pixel, line by line, 31 times that and the pixel more");
        Checks.due("picture at first", new PocketConsole().picture(), 0);
        // The last pixel is 1, the one before it 2, and the last one of line 6 is 3: just the first rows are not 0.
        PocketConsole c = Scenes.on(9);
        Scenes.tile(c, 1, 0, 0, 3, 9);
        c.put(166, 1);
        c.run(225);
        Checks.due("pixel(11, 7)", c.pixel(11, 7), 1);
        long line = 1;
        for (int x = 0; x < 12; x++) {
            line *= 31;
        }
        Checks.due("picture", c.picture(), 3 * line + 2 * 31 + 1);
        Checks.sentence("picture wraps as longs do.");
        PocketConsole d = Scenes.on(9);
        Scenes.tile(d, 0, 255, 255, 255, 255);
        d.run(225);
        long due = 0;
        for (int i = 0; i < 96; i++) {
            due = due * 31 + 3;
        }
        Checks.due("picture of all 3", d.picture(), due);
    }

    private static void countAnswers() {
        Checks.sentence("So far 0: cycles, 1: instructions, 2: interrupts, 3: of these those that ended with PC 0, 4: pictures, 5: cells copied, 6: pixels drawn; -1 for others.");
        PocketConsole c = new PocketConsole();
        for (int what = 0; what < 7; what++) {
            Checks.due("count(" + what + ") at first", c.count(what), 0);
        }
        for (int what : new int[] {-1, 7, LEAST, GREATEST}) {
            Checks.due("count(" + what + ")", c.count(what), -1);
        }
        // HALT is an instruction, waiting is none, an INTERRUPT is none.
        PocketConsole d = Checks.with(Scenes.writes(246, 16));
        Checks.put(d, 4, 3, 1);
        d.run(50);
        d.keys(1);
        d.run(2);
        Checks.due("count(0)", d.count(0), 54);
        Checks.due("count(1)", d.count(1), 4);
        Checks.due("count(2)", d.count(2), 1);
        Checks.due("count(3)", d.count(3), 0);
        // A dropped pixel is not drawn.
        PocketConsole e = Scenes.on(1, 250, 3);
        e.run(7);
        Checks.due("count(6) with three dropped", e.count(6), 0);
        e.run(1);
        Checks.due("count(6) with the first drawn", e.count(6), 1);
    }

    private static void countGoesOn() {
        PocketConsole c = Checks.with(1);
        c.save(0);
        c.run(2000);
        c.load(0);
        c.run(2000);
        c.reset(0);
        c.run(2000);
        Checks.due("count(0)", c.count(0), 6000);
        Checks.due("count(1)", c.count(1), 3);
    }

    private static void saveTakes() {
        Checks.sentence("is saved in slot 0, 1 instead of what was saved there: false for others");
        for (int slot : new int[] {-1, 2, LEAST, GREATEST}) {
            PocketConsole c = busy();
            long before = look(c);
            Checks.due("save(" + slot + ")", c.save(slot), false);
            Checks.due("all after save(" + slot + ")", look(c), before);
            Checks.due("load(1), which has nothing", c.load(1), false);
        }
        PocketConsole c = new PocketConsole();
        Checks.due("save(0)", c.save(0), true);
        Checks.due("load(1), which has nothing", c.load(1), false);
        Checks.due("save(1)", c.save(1), true);
        Checks.due("load(1)", c.load(1), true);
    }

    private static void saveAgain() {
        PocketConsole c = Checks.with(48, 48, 48, 48);
        c.run(1);
        c.save(0);
        c.save(1);
        c.run(1);
        c.save(0);
        c.run(1);
        c.load(0);
        Checks.due("A, saved again in 0", c.cpu(0), 2);
        c.load(1);
        Checks.due("A, saved in 1", c.cpu(0), 1);
        // A save that is refused leaves what was saved.
        c.run(1);
        c.save(2);
        c.load(0);
        Checks.due("A from 0 after a refused save", c.cpu(0), 2);
    }

    private static void loadRefuses() {
        Checks.sentence("False, and nothing changes, if there is nothing, or no such slot.");
        for (int slot : new int[] {1, -1, 2, LEAST, GREATEST}) {
            PocketConsole c = busy();
            long before = look(c);
            Checks.due("load(" + slot + ")", c.load(slot), false);
            Checks.due("all after load(" + slot + ")", look(c), before);
        }
    }

    private static void loadBringsBack() {
        Checks.sentence("All there is but what is saved, what was counted, and the stop, is saved");
        PocketConsole c = busy();
        c.keys(6);
        c.stop(200);
        long before = look(c);
        c.save(1);
        int cycles = c.count(0);
        c.keys(0);
        c.stop(201);
        c.run(500);
        c.put(0, 1);
        c.put(128, 1);
        c.put(239, 1);
        c.reset(3);
        c.load(0);
        Checks.sentence("All is as it was saved.");
        Checks.due("load(1)", c.load(1), true);
        Checks.due("cycles, which are not saved", c.count(0) >= cycles + 500, true);
        Checks.due("all but what was counted", look(c), before);
        Checks.due("keys", c.keys(6), 6);
        Checks.due("the stop, which is not saved", c.stop(201), 201);
        // The other slot is as it was.
        Checks.due("load(0)", c.load(0), true);
        Checks.due("keys of slot 0", c.keys(0), 0);
    }

    private static void imeOnAndEi() {
        Checks.sentence("cpu(6) answers 1 if IME is on, also if an EI is still to come.");
        PocketConsole c = Checks.with(3, 3, 0);
        c.run(1);
        Checks.due("cpu(6), off and an EI to come", c.cpu(6), 2);
        c.run(1);
        Checks.due("cpu(6), on and an EI to come", c.cpu(6), 1);
        c.run(1);
        Checks.due("cpu(6), on", c.cpu(6), 1);
    }

    private static void resetAndLoadTurnNoBitOn() {
        Checks.sentence("reset and load change IF to what is said alone: keys that are down when reset is called, or as they are loaded, turn no bit of IF on by that.");
        PocketConsole c = withPad(48);
        c.keys(255);
        Checks.due("IF with none chosen", c.cell(245), 0);
        c.reset(0);
        Checks.due("PAD after reset", c.cell(240), 0);
        Checks.due("IF after reset", c.cell(245), 0);
        c.run(1);
        Checks.due("IF after a cycle", c.cell(245), 0);
        PocketConsole d = withPad(48);
        d.keys(255);
        d.save(0);
        d.reset(0);
        d.keys(0);
        d.load(0);
        Checks.due("PAD after load", d.cell(240), 63);
        Checks.due("IF after load", d.cell(245), 0);
        // Loaded with PAD 0 and keys down, where they were up before.
        PocketConsole e = Checks.with(Scenes.writes(245, 0));
        e.keys(255);
        e.run(5);
        e.save(0);
        e.keys(0);
        e.load(0);
        Checks.due("PAD after load", e.cell(240), 0);
        Checks.due("IF after load", e.cell(245), 0);
        // A bit that was on when it was saved is on, one that came later is off.
        PocketConsole f = withPad(0);
        f.save(0);
        f.keys(1);
        f.save(1);
        f.load(0);
        Checks.due("IF of slot 0", f.cell(245), 0);
        f.load(1);
        Checks.due("IF of slot 1", f.cell(245), 16);
        f.reset(0);
        Checks.due("IF after reset", f.cell(245), 0);
    }

    private static void refusedChangesNothing() {
        Checks.sentence("a call that is refused (by a code below 0 that is named, or by false) changes nothing");
        PocketConsole c = busy();
        c.keys(5);
        c.stop(77);
        long before = look(c);
        for (int wrong : new int[] {-1, LEAST, GREATEST}) {
            c.put(wrong, 5);
            c.reset(wrong);
            c.run(wrong);
            c.save(wrong);
            c.load(wrong);
            c.cell(wrong);
            c.cpu(wrong);
            c.timer(wrong);
            c.video(wrong);
            c.pixel(wrong, 0);
            c.pixel(0, wrong);
            c.count(wrong);
        }
        Checks.due("all after refused calls", look(c), before);
        Checks.due("keys after refused calls", c.keys(5), 5);
        Checks.due("the stop after refused calls", c.stop(77), 77);
    }

    /** Everything goes on: RELOADS, copying, MODE 3 with sprites and the WINDOW, a picture; slot 0 is saved. */
    private static PocketConsole busy() {
        PocketConsole c = new PocketConsole();
        Checks.put(c, 208, Scenes.writes(244, 5, 255, 3, 247, 15));
        Checks.put(c, 220, 1);
        for (int i = 0; i < 32; i++) {
            c.put(128 + i, 29 * i + 5);
            c.put(160 + i, 3 * i + 1);
        }
        Checks.put(c, 192, 0, 2, 3, 0, 3, 7, 5, 3, 2, 4, 6, 4, 5, 0, 1, 1);
        c.reset(208);
        c.save(0);
        c.run(15 + 336 + 28 + 9);
        return c;
    }

    /** A number of all that can be asked for, but what was counted. */
    private static long look(PocketConsole c) {
        long sum = c.picture();
        for (int a = 0; a < 256; a += a < 128 ? 16 : 1) {
            sum = sum * 31 + c.cell(a);
        }
        for (int what = 0; what < 8; what++) {
            sum = sum * 31 + c.cpu(what);
        }
        for (int what = 0; what < 5; what++) {
            sum = sum * 31 + c.timer(what % 3) + 7 * c.video(what);
        }
        return sum;
    }
}
