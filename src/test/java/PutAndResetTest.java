/** Promises 2 and 3: put and reset. */
public final class PutAndResetTest {
    public static void main(String[] args) {
        putsCells();
        refusesOtherCells();
        putsWhateverGoesOn();
        resetsToFirst();
        resetKeepsWhatItMust();
        refusesOtherPcs();
        Checks.end();
    }

    private static void putsCells() {
        PocketConsole c = new PocketConsole();
        Checks.due("put(0, 7)", c.put(0, 7), true);
        Checks.due("put(239, 256 + 9)", c.put(239, 265), true);
        Checks.due("put(5, -1)", c.put(5, -1), true);
        Checks.due("put(6, least)", c.put(6, Integer.MIN_VALUE + 3), true);
        Checks.due("cell 0", c.cell(0), 7);
        Checks.due("cell 239", c.cell(239), 9);
        Checks.due("cell 5", c.cell(5), 255);
        Checks.due("cell 6", c.cell(6), 3);
    }

    private static void refusesOtherCells() {
        PocketConsole c = new PocketConsole();
        for (int a : new int[] {-1, 240, 242, 246, 255, 256, Integer.MIN_VALUE, Integer.MAX_VALUE}) {
            Checks.due("put(" + a + ", 1)", c.put(a, 1), false);
        }
        for (int a = 241; a < 256; a++) {
            Checks.due("register " + a + " after put", c.cell(a), 0);
        }
    }

    private static void putsWhateverGoesOn() {
        // Video in MODE 3, and copying: both shut the processor out, not put.
        PocketConsole c = Checks.with();
        Checks.put(c, 208, 16, 1, 14, 247, 14, 253, 0, 0, 0);
        c.reset(208);
        c.run(11);
        Checks.due("MODE", c.video(1), 3);
        Checks.due("cells to copy", c.timer(2), 14);
        Checks.due("put into what is copied", c.put(193, 99), true);
        Checks.due("cell 193", c.cell(193), 99);
        Checks.due("put into VIDEO", c.put(128, 98), true);
        Checks.due("cell 128", c.cell(128), 98);
        Checks.due("put into a free cell", c.put(0, 97), true);
        Checks.due("cell 0", c.cell(0), 97);
    }

    private static void resetsToFirst() {
        // P and B and flags change, all registers are written, an EI comes, the processor WAITS, and copying goes on.
        PocketConsole c = new PocketConsole();
        int at = 0;
        for (int register = 240; register < 256; register++) {
            if (register != 253) {
                Checks.put(c, at, 16, 7, 14, register);
                at += 4;
            }
        }
        Checks.put(c, at, 17, 9, 18, 10, 15, 200, 16, 255, 28, 16, 0, 14, 246, 3, 14, 253, 1);
        c.run(99);
        Checks.due("flags before reset", c.cpu(5), 2);
        Checks.due("cells to be copied before reset", c.timer(2), 11);
        Checks.due("MODE before reset", c.video(1) > 0, true);
        Checks.due("IME before reset", c.cpu(6), 1);
        Checks.due("WAITS before reset", c.cpu(7), 1);
        Checks.due("reset(77)", c.reset(77), true);
        for (int what = 0; what < 8; what++) {
            Checks.due("cpu(" + what + ") after reset", c.cpu(what), what == 3 ? 240 : what == 4 ? 77 : 0);
        }
        for (int what = 0; what < 3; what++) {
            Checks.due("timer(" + what + ") after reset", c.timer(what), 0);
        }
        for (int what = 0; what < 5; what++) {
            Checks.due("video(" + what + ") after reset", c.video(what), what == 0 ? -1 : 0);
        }
        for (int a = 240; a < 256; a++) {
            Checks.due("register " + a + " after reset", c.cell(a), a == 240 ? 15 : 0);
        }
    }

    private static void resetKeepsWhatItMust() {
        PocketConsole c = Scenes.on(1 + 8);
        Scenes.tile(c, 1, 27, 27, 27, 27);
        Checks.put(c, 160, 1, 1, 1, 1, 1, 1, 1, 1);
        c.run(400);
        c.put(100, 55);
        c.keys(3);
        c.stop(9);
        c.save(1);
        long picture = c.picture();
        int cycles = c.count(0);
        int pixels = c.count(6);
        Checks.due("something is shown", c.pixel(3, 3), 3);
        c.reset(0);
        Checks.due("a cell after reset", c.cell(100), 55);
        Checks.due("the picture after reset", c.picture(), picture);
        Checks.due("cycles after reset", c.count(0), cycles);
        Checks.due("pixels after reset", c.count(6), pixels);
        Checks.due("PAD after reset, with keys 0 and 1", c.cell(240), 12);
        Checks.due("the keys after reset", c.keys(0), 3);
        Checks.due("the stop after reset", c.stop(-1), 9);
        Checks.due("what is saved after reset", c.load(1), true);
        Checks.due("nothing else is saved", c.load(0), false);
        Checks.due("and comes back", c.video(0), 399 % 28);
    }

    private static void refusesOtherPcs() {
        PocketConsole c = Checks.with(16, 5);
        c.run(2);
        for (int pc : new int[] {-1, 256, Integer.MIN_VALUE, Integer.MAX_VALUE}) {
            Checks.due("reset(" + pc + ")", c.reset(pc), false);
        }
        Checks.due("A after refused resets", c.cpu(0), 5);
        Checks.due("PC after refused resets", c.cpu(4), 2);
        Checks.due("reset(0)", c.reset(0), true);
        Checks.due("reset(255)", c.reset(255), true);
        Checks.due("PC", c.cpu(4), 255);
    }
}
