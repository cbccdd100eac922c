/** The boundary cases of "Terms", sentence by sentence: copying. */
public final class BoundaryCopyingTest {
    public static void main(String[] args) {
        firstAndLastCycle();
        firstAndLastCell();
        sourceIsMod16();
        sourceIsARegister();
        sourceIsTheSprites();
        earlierAndLater();
        laterRightAfterTheLastCell();
        shutFromTheFirstToTheLastCycle();
        shutFromTheFirstToTheLastCell();
        Checks.end();
    }

    /** A program that writes n into DMA in cycle 5, and HALTs: cells are copied in cycles 7 to 22. */
    private static PocketConsole copying(int n) {
        PocketConsole c = Scenes.from208(16, n, 14, 253, 1);
        c.run(5);
        return c;
    }

    private static void firstAndLastCycle() {
        Checks.sentence("in the second cycle after that and the 15 after it");
        PocketConsole c = copying(2);
        c.run(1);
        Checks.due("cells copied in cycle 6", c.count(5), 0);
        c.run(1);
        Checks.due("cells copied in cycle 7", c.count(5), 1);
        c.run(14);
        Checks.due("cells copied in cycle 21", c.count(5), 15);
        Checks.due("cells to copy", c.timer(2), 1);
        c.run(1);
        Checks.due("cells copied in cycle 22", c.count(5), 16);
        Checks.due("cells to copy", c.timer(2), 0);
        c.run(1);
        Checks.due("cells copied in cycle 23", c.count(5), 16);
    }

    private static void firstAndLastCell() {
        Checks.sentence("is copied into cell 192 + k, for k 0 to 15");
        PocketConsole c = copying(2);
        c.run(2);
        Checks.due("cell 192 in cycle 7", c.cell(192), 32);
        Checks.due("cell 193 in cycle 7", c.cell(193), 0);
        c.run(14);
        Checks.due("cell 207 in cycle 21", c.cell(207), 0);
        c.run(1);
        Checks.due("cell 207 in cycle 22", c.cell(207), 47);
        c.run(1);
        Checks.due("cell 208", c.cell(208), 16);
        Checks.due("cell 191", c.cell(191), 191);
    }

    private static void sourceIsMod16() {
        Checks.sentence("cell 16 * (n mod 16) + k");
        for (int n : new int[] {0, 1, 11, 16, 27, 240, 251}) {
            PocketConsole c = copying(n);
            c.run(20);
            Checks.due("cell 192 with " + n, c.cell(192), n % 16 * 16);
            Checks.due("cell 207 with " + n, c.cell(207), n % 16 * 16 + 15);
        }
    }

    private static void sourceIsARegister() {
        Checks.sentence("(255 instead, if that is a register)");
        for (int n : new int[] {15, 31, 255}) {
            PocketConsole c = copying(n);
            c.run(20);
            for (int k = 0; k < 16; k++) {
                Checks.due("cell with " + n, c.cell(192 + k), 255);
            }
        }
        // The last ones that are no registers.
        PocketConsole c = Scenes.from208(16, 14, 14, 253, 1);
        c.put(224, 3);
        c.put(239, 4);
        c.run(25);
        Checks.due("cell 192 with 14", c.cell(192), 3);
        Checks.due("cell 207 with 14", c.cell(207), 4);
    }

    private static void sourceIsTheSprites() {
        Checks.sentence("cell 16 * (n mod 16) + k (255 instead, if that is a register) is copied into cell 192 + k");
        PocketConsole c = Scenes.from208(16, 12, 14, 253, 1);
        for (int k = 0; k < 16; k++) {
            c.put(192 + k, 100 + k);
        }
        c.run(25);
        for (int k = 0; k < 16; k++) {
            Checks.due("cell onto itself", c.cell(192 + k), 100 + k);
        }
        Checks.due("cells copied", c.count(5), 16);
    }

    private static void earlierAndLater() {
        Checks.sentence("an earlier copying is over when a later one begins");
        // DMA 2 in cycle 6, 3 in cycle 10: the second begins in 12, so the first has cycles 8 to 11.
        PocketConsole c = Scenes.from208(18, 253, 16, 2, 27, 16, 3, 27, 1);
        c.run(11);
        Checks.due("cell 195, the first's last", c.cell(195), 35);
        Checks.due("cell 192", c.cell(192), 32);
        c.run(1);
        Checks.due("cell 196", c.cell(196), 0);
        Checks.due("cell 192, the second's first", c.cell(192), 48);
        Checks.due("cells copied", c.count(5), 5);
        c.run(15);
        Checks.due("cell 207, the second's last", c.cell(207), 63);
        Checks.due("cells copied", c.count(5), 20);
        c.run(10);
        Checks.due("cells copied in the end", c.count(5), 20);
        Checks.sentence("of the one that goes on if there are both");
        PocketConsole d = Scenes.from208(18, 253, 16, 2, 27, 16, 3, 27, 1);
        d.run(10);
        Checks.due("cells to copy when DMA was written again", d.timer(2), 13);
        d.run(1);
        Checks.due("cells to copy in the cycle after it", d.timer(2), 12);
        d.run(1);
        Checks.due("cells to copy when the later one began", d.timer(2), 15);
    }

    private static void laterRightAfterTheLastCell() {
        Checks.sentence("an earlier copying is over when a later one begins");
        // DMA 2 in cycle 6, so its last cell is in 23; DMA 3 in cycle 21, 22 or 23: begins in 23, 24 or 25.
        for (int written = 21; written <= 23; written++) {
            PocketConsole c = Scenes.from208(18, 253, 16, 2, 27, 16, 3);
            Checks.put(c, 208 + 7 + written - 10, 27, 1);
            c.run(written);
            Checks.due("the cycle of the writing", c.count(0), written);
            c.run(23 - written);
            Checks.due("cell 207 in cycle 23", c.cell(207), written == 21 ? 0 : 47);
            Checks.due("cells to copy in cycle 23", c.timer(2), written == 21 ? 15 : 16);
            c.run(30);
            Checks.due("cells copied in all", c.count(5), written == 21 ? 31 : 32);
            Checks.due("cell 207 in the end", c.cell(207), 63);
        }
    }

    /** A console that has A from cell 9 (which has 9) by its reading in this cycle; copying is in cycles 9 to 24. */
    private static PocketConsole readsIn(int cycle) {
        PocketConsole c = Scenes.from208(18, 9, 16, 2, 14, 253);
        Checks.put(c, 208 + 6 + cycle - 9, 23, 1);
        c.run(cycle);
        Checks.due("the cycle of the reading", c.count(0), cycle);
        return c;
    }

    /** As readsIn, but 2 is written there. */
    private static PocketConsole writesIn(int cycle) {
        PocketConsole c = Scenes.from208(18, 9, 16, 2, 14, 253);
        Checks.put(c, 208 + 6 + cycle - 9, 27, 1);
        c.run(cycle);
        return c;
    }

    private static void shutFromTheFirstToTheLastCycle() {
        Checks.sentence("In a cycle in which one is copied the processor reads 255 from cells 0..207, and what it writes there is lost.");
        for (int cycle : new int[] {9, 10, 23, 24}) {
            Checks.due("read in cycle " + cycle, readsIn(cycle).cpu(0), 255);
            Checks.due("written in cycle " + cycle, writesIn(cycle).cell(9), 9);
        }
        Checks.due("read in cycle 25", readsIn(25).cpu(0), 9);
        Checks.due("written in cycle 25", writesIn(25).cell(9), 2);
        // The cycle right after the writing of DMA is open: the first byte of an instruction in cell 104 is read in it.
        PocketConsole c = new PocketConsole();
        Checks.put(c, 100, 16, 2, 14, 253, 48);
        c.reset(100);
        c.run(6);
        Checks.due("A after the instruction in cycle 6", c.cpu(0), 3);
    }

    private static void shutFromTheFirstToTheLastCell() {
        Checks.sentence("reads 255 from cells 0..207");
        for (int a : new int[] {0, 1, 127, 128, 191, 192, 206, 207, 208, 239, 252}) {
            // 13 a reads in cycle 8, the second of copying; 14 a writes then.
            PocketConsole c = Scenes.from208(16, 2, 14, 253, 13, a);
            PocketConsole d = Scenes.from208(16, 2, 14, 253, 14, a);
            c.put(239, 7);
            d.put(239, 7);
            int before = d.cell(a);
            c.run(8);
            d.run(8);
            int copied = a == 192 ? 32 : before;
            Checks.due("read at " + a, c.cpu(0), a <= 207 ? 255 : before);
            Checks.due("written at " + a, d.cell(a), a <= 207 ? copied : 2);
        }
    }
}
