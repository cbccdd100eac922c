/** Promise 9 (timer(2)) and copying. */
public final class CopyingTest {
    public static void main(String[] args) {
        copiesInItsCycles();
        copiesFromEverywhere();
        shutsCells();
        openBeforeAndAfter();
        programIsShutOff();
        laterCopyingTakesOver();
        laterCopyingAtOnce();
        interruptsAreShutOff();
        Checks.end();
    }

    private static void copiesInItsCycles() {
        // DMA is written in cycle 5; cells are copied in 7 to 22.
        PocketConsole c = Scenes.from208(16, 3, 14, 253, 1);
        c.run(2);
        Checks.due("nothing to copy", c.timer(2), 0);
        c.run(3);
        Checks.due("cells to copy in cycle 5", c.timer(2), 16);
        Checks.due("cells copied", c.count(5), 0);
        c.run(1);
        Checks.due("cells to copy in cycle 6", c.timer(2), 16);
        Checks.due("cells copied", c.count(5), 0);
        for (int k = 0; k < 16; k++) {
            Checks.due("cell before it is copied", c.cell(192 + k), 0);
            c.run(1);
            Checks.due("cells to copy after " + k, c.timer(2), 15 - k);
            Checks.due("cells copied", c.count(5), k + 1);
            Checks.due("cell copied", c.cell(192 + k), 48 + k);
        }
        c.run(10);
        Checks.due("cells copied in the end", c.count(5), 16);
        Checks.due("cells to copy in the end", c.timer(2), 0);
        Checks.due("the cell behind", c.cell(208), 16);
        Checks.due("DMA", c.cell(253), 3);
    }

    private static void copiesFromEverywhere() {
        for (int n : new int[] {0, 1, 7, 8, 11, 13, 14, 16, 17, 251}) {
            PocketConsole c = Scenes.from208(16, n, 14, 253, 1);
            c.put(239, 33);
            c.run(30);
            for (int k = 0; k < 16; k++) {
                Checks.due("cell " + k + " copied with " + n, c.cell(192 + k), c.cell(n % 16 * 16 + k));
            }
        }
        // Registers count as 255; sprites onto themselves stay.
        PocketConsole c = Scenes.from208(16, 255, 14, 253, 1);
        c.run(30);
        for (int k = 0; k < 16; k++) {
            Checks.due("cell " + k + " copied with 255", c.cell(192 + k), 255);
        }
        PocketConsole d = Scenes.from208(16, 12, 14, 253, 1);
        Checks.put(d, 192, 1, 2, 3, 4);
        d.run(30);
        Checks.due("cell 193 copied onto itself", d.cell(193), 2);
        Checks.due("cells copied", d.count(5), 16);
        // A cell put before its turn is copied as it is then.
        PocketConsole e = Scenes.from208(16, 3, 14, 253, 1);
        e.run(10);
        e.put(48, 200);
        e.put(60, 201);
        e.run(20);
        Checks.due("cell copied before it was put", e.cell(192), 48);
        Checks.due("cell copied after it was put", e.cell(204), 201);
    }

    private static void shutsCells() {
        // 13 n: its reading is in cycle 8, in the middle of copying.
        for (int a : new int[] {0, 5, 127, 128, 191, 192, 207}) {
            PocketConsole c = Scenes.from208(16, 3, 14, 253, 13, a, 1);
            c.run(8);
            Checks.due("read " + a, c.cpu(0), 255);
            PocketConsole d = Scenes.from208(16, 3, 14, 253, 14, a, 1);
            d.run(8);
            Checks.due("write " + a + " is lost", d.cell(a), a == 192 ? 48 : a < 192 ? a : 0);
        }
        for (int a : new int[] {208, 239}) {
            PocketConsole c = Scenes.from208(16, 3, 14, 253, 13, a, 1);
            c.put(239, 16);
            c.run(8);
            Checks.due("read " + a, c.cpu(0), 16);
            PocketConsole d = Scenes.from208(16, 3, 14, 253, 14, a, 1);
            d.run(8);
            Checks.due("write " + a, d.cell(a), 3);
        }
        PocketConsole c = Scenes.from208(16, 3, 14, 253, 14, 252, 13, 253, 1);
        c.run(11);
        Checks.due("registers can be written", c.cell(252), 3);
        Checks.due("and read", c.cpu(0), 3);
    }

    private static void openBeforeAndAfter() {
        // 23: A becomes the cell at P, read in its second cycle: DMA is written in cycle 7, and 9 is the first of copying.
        PocketConsole c = Scenes.from208(18, 9, 16, 3, 14, 253, 23, 1);
        c.run(9);
        Checks.due("read in the first cycle of copying", c.cpu(0), 255);
        // Copying is in cycles 9 to 24; the reading is in 24, and then in 25.
        int[] program = new int[26];
        System.arraycopy(new int[] {18, 9, 16, 3, 14, 253}, 0, program, 0, 6);
        for (int more = 0; more < 2; more++) {
            int[] later = program.clone();
            later[6 + 15 + more] = 23;
            later[6 + 16 + more] = 1;
            PocketConsole d = Scenes.from208(later);
            d.run(7 + 15 + more + 2);
            Checks.due("read in cycle " + (24 + more), d.cpu(0), more == 0 ? 255 : 9);
        }
    }

    private static void programIsShutOff() {
        // In 0..207 the program itself reads as 255: that is 63, A + the cell at P + K, with 255 for the cell.
        PocketConsole c = Checks.with(16, 3, 14, 253, 0, 0, 0, 0);
        c.run(6);
        Checks.due("PC", c.cpu(4), 5);
        Checks.due("cycles of what is read as 63", c.run(1), 2);
        Checks.due("A", c.cpu(0), 2);
        Checks.due("flags", c.cpu(5), 2);
        Checks.due("PC", c.cpu(4), 6);
        c.run(1);
        Checks.due("A", c.cpu(0), 2);
    }

    private static void laterCopyingTakesOver() {
        // DMA is written in cycles 6 and 10: cells are copied in 8 to 11 from 48 on, and in 12 to 27 from 16 on.
        PocketConsole c = Scenes.from208(18, 253, 16, 3, 27, 16, 1, 27, 1);
        c.run(10);
        Checks.due("cells to copy in cycle 10", c.timer(2), 13);
        c.run(1);
        Checks.due("cells to copy in cycle 11", c.timer(2), 12);
        Checks.due("cell 195", c.cell(195), 51);
        Checks.due("cell 196", c.cell(196), 0);
        c.run(1);
        Checks.due("cells to copy in cycle 12", c.timer(2), 15);
        Checks.due("cell 192", c.cell(192), 16);
        Checks.due("cell 196", c.cell(196), 0);
        Checks.due("cells copied", c.count(5), 5);
        c.run(30);
        Checks.due("cells copied", c.count(5), 20);
        Checks.due("cell 207", c.cell(207), 31);
        // The first ends while the second is to begin: then there is just the second.
        int[] program = new int[27];
        System.arraycopy(new int[] {18, 253, 16, 3, 27, 16, 1}, 0, program, 0, 7);
        program[7 + 13] = 27;
        program[7 + 14] = 1;
        PocketConsole d = Scenes.from208(program);
        d.run(8 + 13 + 2);
        Checks.due("cells to copy in cycle 23", d.timer(2), 16);
        Checks.due("cells copied", d.count(5), 16);
        d.run(1);
        Checks.due("cells copied between both", d.count(5), 16);
        d.run(1);
        Checks.due("cells copied", d.count(5), 17);
        Checks.due("cells to copy", d.timer(2), 15);
    }

    private static void laterCopyingAtOnce() {
        // Written in cycles 6 and 8: the first has two cells.
        PocketConsole c = Scenes.from208(18, 253, 16, 3, 27, 27, 1);
        c.run(8);
        Checks.due("cells to copy in cycle 8", c.timer(2), 15);
        c.run(1);
        Checks.due("cells to copy in cycle 9", c.timer(2), 14);
        c.run(1);
        Checks.due("cells to copy in cycle 10", c.timer(2), 15);
        c.run(30);
        Checks.due("cells copied", c.count(5), 18);
    }

    private static void interruptsAreShutOff() {
        // An INTERRUPT that writes PC at 99 while cells are copied: it is lost. A becomes 16 for IE, 3 for DMA.
        PocketConsole c = Scenes.from208(15, 100, 16, 16, 14, 246, 16, 3, 3, 14, 253, 0, 0, 0, 0);
        c.run(14);
        c.keys(1);
        Checks.due("the INTERRUPT", c.run(1), 3);
        Checks.due("PC", c.cpu(4), 40);
        Checks.due("S", c.cpu(3), 99);
        Checks.due("the cell at S", c.cell(99), 99);
        Checks.due("copying went on", c.timer(2), 13);
    }
}
