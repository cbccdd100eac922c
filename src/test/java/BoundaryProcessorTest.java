/** The boundary cases of "Terms", sentence by sentence: cells, the order in a cycle, the processor. */
public final class BoundaryProcessorTest {
    public static void main(String[] args) {
        cellsAreBytes();
        firstAndLastCells();
        timerComesFirst();
        copyingComesBeforeVideo();
        copyingComesBeforeProcessor();
        videoComesBeforeProcessor();
        effectAtOnce();
        readsAsWritten();
        atFirst();
        pcWraps();
        sWraps();
        firstByteMod64();
        reachOfN();
        eiAfterTheNext();
        eiAndOff();
        eiAndInterrupt();
        jumpsOrNot();
        cyclesWithoutTheCell();
        readWhereUsed();
        zeroIsOnForZero();
        kOfSums();
        kOfDifferences();
        kOffForBits();
        shiftsThroughK();
        othersLeaveFlags();
        pendingBits();
        interruptInPlaceOfAnInstruction();
        leastBitPendingNow();
        noneIsPendingAnyMore();
        haltWhenItsCycleIsOver();
        waitsUntilTheEndOfACycle();
        stuckPc();
        Checks.end();
    }

    private static void cellsAreBytes() {
        Checks.sentence("CELLS 0..255 are bytes (0..255, 0 at first)");
        PocketConsole c = Checks.with(18, 100, 51, 55, 55);
        Checks.due("cell 100 at first", c.cell(100), 0);
        c.put(100, 255);
        c.run(5);
        Checks.due("255 and 1 more", c.cell(100), 0);
        c.run(3);
        Checks.due("0 and 1 less", c.cell(100), 255);
        c.run(3);
        Checks.due("255 and 1 less", c.cell(100), 254);
    }

    private static void firstAndLastCells() {
        Checks.sentence("128..159 eight TILES of four rows; 160..175 the MAP, 176..191 the WINDOW MAP");
        // Tile 0 is all 3 in its first row, cell 128; tile 7 all 2 in its last row, cell 159. All else is tile 1, all 1.
        PocketConsole c = Scenes.on(11, 249, 8, 250, 12, 254, 4, 255, 8);
        for (int a = 128; a < 160; a++) {
            c.put(a, 85);
        }
        for (int a = 160; a < 192; a++) {
            c.put(a, 1);
        }
        c.put(128, 255);
        c.put(159, 170);
        // SCY 8 and SCX 12: line 7 begins with the last cell of the MAP. The WINDOW begins at 8 in line 4.
        c.put(175, 7);
        c.put(176, 0);
        c.run(225);
        Scenes.dueLine("the WINDOW MAP's first cell", c, 4, "111111113333");
        Scenes.dueLine("its second row", c, 5, "111111111111");
        Scenes.dueLine("the MAP's last cell", c, 7, "222211111111");
        PocketConsole d = Scenes.on(9);
        d.put(128, 255);
        d.put(159, 170);
        Checks.put(d, 160, 0, 1, 1, 7, 1, 1, 1, 1);
        d.run(225);
        Scenes.dueLine("the MAP's first cell", d, 0, "333300000000");
        Scenes.dueLine("its second row", d, 1, "000000000000");
        Checks.sentence("192..207 four SPRITES of four cells (y, X, tile, look)");
        PocketConsole e = Scenes.on(5);
        Scenes.tile(e, 1, 64, 0, 0, 128);
        Checks.put(e, 192, 0, 0, 1, 0, 255, 0, 0, 0, 255, 0, 0, 0, 0, 8, 1, 3);
        e.run(225);
        Scenes.dueLine("the first and the last one", e, 0, "500000000006");
    }

    private static void timerComesFirst() {
        Checks.sentence("In a CYCLE first the timer, then the copying, then the video have their turns, then the processor");
        // DIV is read in cycle 4, in which the DIVIDER becomes 4.
        PocketConsole c = Checks.with(0, 13, 241);
        c.run(4);
        Checks.due("DIV as it is read", c.cpu(0), 1);
    }

    /** A sprite whose tile comes by copying in the cycle of DOT 8, and is fetched at X + 4. */
    private static PocketConsole tileCopiedAtDot8(int x) {
        PocketConsole c = Scenes.onThen(Scenes.writeAtDot(4, 253, 13), 5);
        Scenes.tile(c, 1, 85, 85, 85, 85);
        for (int i = 0; i < 4; i++) {
            c.put(192 + 4 * i, 255);
            c.put(208 + 4 * i, 255);
        }
        Checks.put(c, 192, 0, x, 0, 0);
        c.put(210, 1);
        c.run(225);
        return c;
    }

    private static void copyingComesBeforeVideo() {
        Scenes.dueLine("copied in the cycle in which it is fetched", tileCopiedAtDot8(4), 0, "000055550000");
        Scenes.dueLine("copied in the cycle after it was fetched", tileCopiedAtDot8(3), 0, "000000000000");
    }

    private static void copyingComesBeforeProcessor() {
        // DMA 14 is written in cycle 5, so that 228 is copied in cycle 11; A is written there in 10, or 11.
        for (int late = 0; late < 2; late++) {
            PocketConsole c = new PocketConsole();
            Checks.put(c, 208, 16, 14, 14, 253, 0, 0);
            Checks.put(c, 214 + late, 14, 228, 1);
            c.put(228, 77);
            c.reset(208);
            c.run(10 + late);
            Checks.due("cell 228", c.cell(228), 14);
            c.run(2);
            Checks.due("what was copied, written in cycle " + (10 + late), c.cell(196), late == 0 ? 14 : 77);
        }
    }

    private static void videoComesBeforeProcessor() {
        for (int dot : new int[] {27, 28}) {
            PocketConsole c = Scenes.onAt(dot - 2, new int[] {13, 251}, 1);
            c.run(3);
            Checks.due("LY as it is read in DOT " + dot, c.cpu(0), dot - 27);
        }
    }

    private static void effectAtOnce() {
        Checks.sentence("What is written has its effect at once.");
        PocketConsole c = Checks.with(Scenes.writes(246, 31));
        Checks.put(c, 4, 3, 0, 14, 245, 0);
        c.run(10);
        Checks.due("IF", c.cell(245), 31);
        Checks.due("the INTERRUPT comes next", c.run(1), 3);
        Checks.due("PC", c.cpu(4), 8);
        PocketConsole d = Checks.with(16, 1, 14, 247, 13, 251);
        d.run(5);
        Checks.due("no DOT in the cycle of switching on", d.video(0), -1);
        d.run(1);
        Checks.due("three DOTS in the three cycles after", d.video(0), 2);
    }

    private static void readsAsWritten() {
        Checks.sentence("A register reads as what was written into it last, but as said.");
        for (int register : new int[] {243, 244, 246, 247, 249, 250, 252, 254, 255}) {
            for (int v : new int[] {255, 128, 0}) {
                PocketConsole c = Checks.with(Scenes.writes(register, 85, register, v));
                c.run(10);
                Checks.due("register " + register, c.cell(register), v);
            }
        }
        // DMA, from where copying does not shut the program off.
        PocketConsole e = new PocketConsole();
        Checks.put(e, 208, Scenes.writes(253, 85, 253, 255));
        e.reset(208);
        e.run(10);
        Checks.due("DMA", e.cell(253), 255);
        // The processor reads them so, too.
        PocketConsole c = Checks.with(16, 200, 14, 255, 16, 0, 13, 255);
        c.run(10);
        Checks.due("WX as the processor reads it", c.cpu(0), 200);
    }

    private static void atFirst() {
        Checks.sentence("THE PROCESSOR has A, B, P, S (bytes; S 240 at first)");
        PocketConsole c = Checks.with(16, 9, 6);
        Checks.due("S", c.cpu(3), 240);
        c.run(5);
        Checks.due("the first cell that is written at S", c.cell(239), 9);
        Checks.sentence("and IME (off at first)");
        PocketConsole d = Checks.with(Scenes.writes(246, 16));
        d.run(5);
        d.keys(1);
        Checks.due("no INTERRUPT", d.run(3), 3);
        Checks.due("interrupts", d.count(2), 0);
    }

    private static void pcWraps() {
        Checks.sentence("PC (a byte, as all sums mod 256)");
        PocketConsole c = new PocketConsole();
        c.reset(255);
        c.run(1);
        Checks.due("PC after the instruction at 255", c.cpu(4), 0);
        // WY is 16 and WX its n: the n is at 255. Then WX is 16 and its n is at 0.
        PocketConsole d = Checks.with(8, 60);
        Checks.put(d, 60, Scenes.writes(254, 16, 255, 99));
        Checks.put(d, 68, 8, 254);
        d.run(3 + 10 + 3 + 2);
        Checks.due("A with n at 255", d.cpu(0), 99);
        Checks.due("PC", d.cpu(4), 0);
        PocketConsole e = Checks.with(8, 60);
        Checks.put(e, 60, Scenes.writes(255, 16));
        Checks.put(e, 64, 8, 255);
        e.run(3 + 5 + 3 + 2);
        Checks.due("A with n at 0", e.cpu(0), 8);
        Checks.due("PC", e.cpu(4), 1);
        // A CALL at 254: 0 is the PC that is written.
        PocketConsole f = Checks.with(8, 60);
        f.put(239, 1);
        Checks.put(f, 60, Scenes.writes(254, 12, 255, 99));
        Checks.put(f, 68, 8, 254);
        f.run(3 + 10 + 3 + 4);
        Checks.due("PC after CALL", f.cpu(4), 99);
        Checks.due("the cell at S", f.cell(239), 0);
    }

    private static void sWraps() {
        Checks.sentence("S is 1 less, A is written at S");
        PocketConsole c = Checks.with(15, 0, 16, 9, 6);
        c.run(7);
        Checks.due("S from 0", c.cpu(3), 255);
        Checks.due("cell 255", c.cell(255), 9);
        Checks.sentence("A is read at S, S is 1 more");
        c = Checks.with(16, 9, 14, 255, 15, 255, 16, 0, 7);
        c.run(11);
        Checks.due("A", c.cpu(0), 9);
        Checks.due("S from 255", c.cpu(3), 0);
        c = Checks.with(15, 4, 7, 0, 99);
        c.run(4);
        Checks.due("A", c.cpu(0), 99);
        Checks.due("S from 4", c.cpu(3), 5);
        Checks.sentence("4 RET: the cell at S is read, S is 1 more, nothing, PC is what was read");
        c = Checks.with(16, 99, 14, 255, 15, 255, 4);
        c.run(10);
        Checks.due("PC", c.cpu(4), 99);
        Checks.due("S from 255", c.cpu(3), 0);
        Checks.due("IME", c.cpu(6), 0);
        c = Checks.with(16, 7, 4);
        Checks.due("cycles of 16 n and RET", c.run(3), 5);
        Checks.due("A, which RET leaves", c.cpu(0), 7);
        Checks.sentence("5 the same, and IME is on");
        c = Checks.with(16, 99, 14, 255, 15, 255, 5);
        c.run(10);
        Checks.due("PC", c.cpu(4), 99);
        Checks.due("S from 255", c.cpu(3), 0);
        Checks.due("IME", c.cpu(6), 1);
        Checks.sentence("12 CALL: n, nothing, S is 1 less, PC is written at S, PC is n");
        c = Checks.with(15, 0, 12, 99);
        c.run(6);
        Checks.due("PC", c.cpu(4), 99);
        Checks.due("S from 0", c.cpu(3), 255);
        Checks.due("cell 255", c.cell(255), 4);
        Checks.due("A, which CALL leaves", c.cpu(0), 0);
    }

    private static void firstByteMod64() {
        Checks.sentence("of that byte only mod 64 counts");
        for (int byte1 : new int[] {48, 112, 176, 240}) {
            PocketConsole c = Checks.with(byte1);
            c.run(1);
            Checks.due("A after " + byte1, c.cpu(0), 1);
        }
        PocketConsole c = Checks.with(64);
        c.run(1);
        Checks.due("WAITS after 64", c.cpu(7), 0);
        c = Checks.with(65);
        c.run(1);
        Checks.due("WAITS after 65", c.cpu(7), 1);
    }

    private static void reachOfN() {
        Checks.sentence("8 n, nothing, PC is n");
        for (int n : new int[] {0, 128, 255}) {
            PocketConsole c = Checks.with(8, n);
            Checks.due("cycles of 8", c.run(1), 3);
            Checks.due("PC", c.cpu(4), n);
        }
        Checks.sentence("13 n, A is read at n 14 n, A is written at n 15 n, S is n");
        for (int n : new int[] {0, 1, 239, 255}) {
            PocketConsole c = Checks.with(0, 0, 16, 99, 14, n, 16, 0, 13, n, 15, n);
            c.run(7);
            Checks.due("cell " + n, c.cell(n), 99);
            c.put(99, 5);
            c.run(5);
            Checks.due("A", c.cpu(0), 99);
            Checks.due("cell " + n + " after it was read", c.cell(n), 99);
            Checks.due("cell 99, which reading leaves", c.cell(99), 5);
            c.run(2);
            Checks.due("S", c.cpu(3), n);
        }
    }

    private static void eiAfterTheNext() {
        Checks.sentence("3 EI: IME is on when the next instruction's cycles are over");
        // The next instruction has four cycles: something gets PENDING in its first ones, but it is not broken off.
        PocketConsole c = Checks.with(Scenes.writes(246, 16, 245, 16));
        Checks.put(c, 8, 3, 12, 99);
        c.run(11);
        Checks.due("IME after EI", c.cpu(6), 2);
        Checks.due("the next instruction", c.run(1), 4);
        Checks.due("PC", c.cpu(4), 99);
        Checks.due("IME", c.cpu(6), 1);
        Checks.due("the INTERRUPT", c.run(1), 3);
        Checks.due("PC", c.cpu(4), 40);
        Checks.due("the cell at S", c.cell(238), 99);
    }

    private static void eiAndOff() {
        Checks.sentence("(if that is not 2");
        PocketConsole c = Checks.with(Scenes.writes(246, 16, 245, 16));
        Checks.put(c, 8, 3, 2, 0, 0);
        c.run(12);
        Checks.due("IME after EI and 2", c.cpu(6), 0);
        c.run(2);
        Checks.due("IME later", c.cpu(6), 0);
        Checks.due("interrupts", c.count(2), 0);
    }

    private static void eiAndInterrupt() {
        Checks.sentence("an INTERRUPT in between is none)");
        PocketConsole c = Checks.with(Scenes.writes(246, 16));
        Checks.put(c, 4, 3, 0, 3, 48);
        c.put(40, 48);
        c.run(8);
        c.keys(1);
        Checks.due("the INTERRUPT after EI", c.run(1), 3);
        Checks.due("IME", c.cpu(6), 2);
        c.run(1);
        Checks.due("A after the handler's first instruction", c.cpu(0), 17);
        Checks.due("IME", c.cpu(6), 1);
    }

    private static void jumpsOrNot() {
        Checks.sentence("9, 10, 11: n; then if Z is on, is off, K is on: nothing, PC is n");
        // 40 is A xor A: Z on. 16 255 28 is K on, Z off. Each row: what is before, the jump, and whether it is done.
        int[][] rows = {{40, 9, 1}, {40, 10, 0}, {40, 11, 0}, {28, 9, 0}, {28, 10, 1}, {28, 11, 1}};
        for (int[] row : rows) {
            PocketConsole c = Checks.with(16, 255, row[0], row[1], 99);
            c.run(3);
            Checks.due("cycles of " + row[1] + " after " + row[0], c.run(1), 2 + row[2]);
            Checks.due("PC", c.cpu(4), row[2] == 1 ? 99 : 5);
        }
    }

    private static void cyclesWithoutTheCell() {
        Checks.sentence("Each reading, writing, \"nothing\" is a cycle, in the order said");
        // Just k 0 has a second cycle, for n; k 1 is the one right after it.
        for (int op = 16; op < 64; op++) {
            if (op % 4 != 3) {
                PocketConsole c = Checks.with(op, 100);
                Checks.due("cycles of " + op, c.run(1), op < 20 ? 2 : 1);
                Checks.due("PC after " + op, c.cpu(4), op < 20 ? 2 : 1);
            }
        }
    }

    private static void readWhereUsed() {
        Checks.sentence("(that cell is read where R is used, and written when it is changed)");
        int[] cycles = {3, 2, 2, 2, 2, 2, 2, 2, 3, 3, 3, 2};
        for (int k = 0; k < 12; k++) {
            PocketConsole c = Checks.with(16, 6, 18, 100, 19 + 4 * k, 9);
            c.put(100, 5);
            c.run(4);
            Checks.due("cycles with k " + k, c.run(1), cycles[k]);
            int[] cell = {9, 5, 6, 5, 5, 5, 5, 5, 6, 4, 2, 5};
            int[] a = {6, 5, 6, 11, 1, 4, 3, 6, 6, 6, 6, 11};
            Checks.due("the cell at P with k " + k, c.cell(100), cell[k]);
            Checks.due("A with k " + k, c.cpu(0), a[k]);
            Checks.due("B with k " + k, c.cpu(1), 0);
            Checks.due("P with k " + k, c.cpu(2), 100);
            Checks.due("S with k " + k, c.cpu(3), 240);
        }
    }

    /** A console that has done this k, with these A, B and K before, and B for R; Z is on just if K is off. */
    private static PocketConsole reckon(int k, int a, int b, int kBefore) {
        PocketConsole c = Checks.with(16, kBefore == 1 ? 255 : 0, 28, 16, a, 17, b, 17 + 4 * k, 0);
        c.run(8);
        return c;
    }

    private static void dueReckoned(int k, int a, int b, int kBefore, int resultA, int resultB, int flags) {
        PocketConsole c = reckon(k, a, b, kBefore);
        String what = " after k " + k + " of " + a + " and " + b + ", K " + kBefore;
        Checks.due("A" + what, c.cpu(0), resultA);
        Checks.due("B" + what, c.cpu(1), resultB);
        Checks.due("Z + 2 K" + what, c.cpu(5), flags);
    }

    private static void zeroIsOnForZero() {
        Checks.sentence("Z is on if the result (of 3 to 11) is 0, else off");
        dueReckoned(3, 0, 0, 1, 0, 0, 1);
        dueReckoned(3, 0, 1, 0, 1, 1, 0);
        dueReckoned(4, 7, 7, 1, 0, 7, 1);
        dueReckoned(4, 7, 6, 0, 1, 6, 0);
        dueReckoned(5, 85, 170, 1, 0, 170, 1);
        dueReckoned(5, 85, 171, 0, 1, 171, 0);
        dueReckoned(6, 85, 85, 1, 0, 85, 1);
        dueReckoned(6, 85, 84, 0, 1, 84, 0);
        dueReckoned(7, 7, 7, 1, 7, 7, 1);
        dueReckoned(7, 7, 6, 0, 7, 6, 0);
        dueReckoned(8, 0, 255, 1, 0, 0, 3);
        dueReckoned(8, 0, 254, 0, 0, 255, 0);
        dueReckoned(9, 0, 1, 1, 0, 0, 3);
        dueReckoned(9, 0, 0, 0, 0, 255, 0);
        dueReckoned(10, 0, 0, 0, 0, 0, 1);
        dueReckoned(10, 0, 2, 0, 0, 1, 0);
        dueReckoned(11, 255, 0, 1, 0, 0, 3);
        dueReckoned(11, 0, 0, 1, 1, 0, 0);
    }

    private static void kOfSums() {
        Checks.sentence("K: for 3, 11 whether the sum is above 255");
        dueReckoned(3, 128, 127, 1, 255, 127, 0);
        dueReckoned(3, 128, 128, 0, 0, 128, 3);
        dueReckoned(3, 255, 255, 0, 254, 255, 2);
        dueReckoned(11, 128, 127, 0, 255, 127, 0);
        dueReckoned(11, 128, 127, 1, 0, 127, 3);
        dueReckoned(11, 128, 126, 1, 255, 126, 0);
        dueReckoned(11, 255, 255, 1, 255, 255, 2);
    }

    private static void kOfDifferences() {
        Checks.sentence("for 4, 7 whether R is above A");
        dueReckoned(4, 9, 9, 1, 0, 9, 1);
        dueReckoned(4, 9, 10, 0, 255, 10, 2);
        dueReckoned(4, 10, 9, 1, 1, 9, 0);
        dueReckoned(4, 0, 255, 0, 1, 255, 2);
        dueReckoned(7, 9, 9, 1, 9, 9, 1);
        dueReckoned(7, 9, 10, 0, 9, 10, 2);
        dueReckoned(7, 10, 9, 1, 10, 9, 0);
        dueReckoned(7, 0, 255, 0, 0, 255, 2);
    }

    private static void kOffForBits() {
        Checks.sentence("off for 5, 6");
        dueReckoned(5, 255, 255, 1, 255, 255, 0);
        dueReckoned(6, 255, 0, 1, 255, 0, 0);
    }

    private static void shiftsThroughK() {
        Checks.sentence("right by one bit, K comes in at the top");
        dueReckoned(10, 0, 0, 1, 0, 128, 0);
        dueReckoned(10, 0, 255, 0, 0, 127, 2);
        Checks.sentence("for 10 the bit that went out");
        dueReckoned(10, 0, 1, 0, 0, 0, 3);
        dueReckoned(10, 0, 1, 1, 0, 128, 2);
        dueReckoned(10, 0, 254, 1, 0, 255, 0);
    }

    private static void othersLeaveFlags() {
        Checks.sentence("others leave Z and K.");
        for (int k = 0; k < 3; k++) {
            Checks.due("flags after k " + k + ", 0", reckon(k, 0, 0, 1).cpu(5), 2);
            Checks.due("flags after k " + k + ", not 0", reckon(k, 5, 5, 0).cpu(5), 1);
        }
        // 8 and 9 leave K, on and off.
        dueReckoned(8, 0, 255, 0, 0, 0, 1);
        dueReckoned(8, 0, 255, 1, 0, 0, 3);
        dueReckoned(9, 0, 0, 0, 0, 255, 0);
        dueReckoned(9, 0, 0, 1, 0, 255, 2);
    }

    private static void pendingBits() {
        Checks.sentence("PENDING are the bits 0..4 that are on in IF and in IE.");
        for (int bit = 0; bit < 8; bit++) {
            PocketConsole c = Checks.with(8, 60);
            Checks.put(c, 60, Scenes.writes(246, 1 << bit, 245, 255));
            Checks.put(c, 68, 3, 0, 0);
            c.run(3 + 10 + 2);
            c.run(1);
            Checks.due("interrupts with bit " + bit + " of IE", c.count(2), bit < 5 ? 1 : 0);
            Checks.due("PC", c.cpu(4), bit < 5 ? 8 + 8 * bit : 71);
            PocketConsole d = Checks.with(Scenes.writes(246, 255, 245, 1 << bit));
            Checks.put(d, 8, 3, 0, 0);
            d.run(12);
            d.run(1);
            Checks.due("interrupts with bit " + bit + " of IF", d.count(2), bit < 5 ? 1 : 0);
        }
    }

    private static void interruptInPlaceOfAnInstruction() {
        Checks.sentence("there is an INTERRUPT in its place: IME is off, nothing, S is 1 less, PC is written at S, nothing");
        // S 0: it is written into WX. What is PENDING still waits until IME is on again.
        PocketConsole c = Checks.with(8, 60);
        Checks.put(c, 60, Scenes.writes(246, 3, 245, 3));
        Checks.put(c, 68, 15, 0, 3, 0, 48);
        c.run(17);
        Checks.due("cycles", c.run(1), 3);
        Checks.due("S from 0", c.cpu(3), 255);
        Checks.due("cell 255", c.cell(255), 72);
        Checks.due("IME", c.cpu(6), 0);
        Checks.due("A, as the instruction was not done", c.cpu(0), 3);
        Checks.due("IF", c.cell(245), 2);
        Checks.due("no other one", c.run(1), 1);
        Checks.due("interrupts", c.count(2), 1);
    }

    private static void leastBitPendingNow() {
        Checks.sentence("then k is the least bit PENDING now: it is off in IF, PC is 8 + 8 k");
        // A key begins it; the picture is complete in DOT 224: in its last cycle, or in the one after it.
        for (int late = 0; late < 2; late++) {
            PocketConsole c = Scenes.onThen(new int[] {3, 1, 0}, 1, 246, 17);
            c.run(220 + late);
            c.keys(1);
            Checks.due("waiting, then the INTERRUPT", c.run(2), 4);
            Checks.due("DOT", c.video(0), late == 0 ? 27 : 0);
            Checks.due("PC", c.cpu(4), late == 0 ? 40 : 8);
            Checks.due("IF", c.cell(245), late == 0 ? 0 : 16);
        }
    }

    private static void noneIsPendingAnyMore() {
        Checks.sentence("if there is none, PC is 0");
        // S 247 lets PC be written into IE: the nothing before EI makes it 12, which has no bit 0.
        PocketConsole c = Checks.with(Scenes.writes(246, 1, 245, 1));
        Checks.put(c, 8, 15, 247, 3, 0, 48);
        c.run(14);
        Checks.due("cycles", c.run(1), 3);
        Checks.due("IE", c.cell(246), 12);
        Checks.due("PC", c.cpu(4), 0);
        Checks.due("IF stays", c.cell(245), 1);
        Checks.due("IME", c.cpu(6), 0);
        Checks.due("interrupts that ended with PC 0", c.count(3), 1);
    }

    /** TIMA goes from 255 in cycle 24, and the RELOAD turns on bit 2 of IF in 25; this program begins in cycle 21. */
    private static PocketConsole reloadInCycle25(int... program) {
        PocketConsole c = Checks.with(Scenes.writes(246, 4, 242, 255, 243, 77, 244, 5));
        Checks.put(c, 16, program);
        c.run(20);
        return c;
    }

    private static void haltWhenItsCycleIsOver() {
        Checks.sentence("HALT: when its cycle is over (and IME perhaps on, by EI): if nothing is PENDING the processor WAITS");
        PocketConsole c = reloadInCycle25(0, 0, 0, 1, 48);
        c.run(4);
        Checks.due("nothing PENDING, HALT in cycle 24", c.cpu(7), 1);
        c.run(1);
        Checks.due("the RELOAD wakes it in 25", c.cpu(7), 0);
        c.run(1);
        Checks.due("PC after the next instruction", c.cpu(4), 21);
        Checks.sentence("If something is PENDING at once, and IME is off, the first byte of the next instruction is read without PC being 1 more.");
        PocketConsole d = reloadInCycle25(0, 0, 0, 0, 1, 48);
        d.run(5);
        Checks.due("the RELOAD in the cycle of HALT, 25", d.cpu(7), 2);
        d.run(1);
        Checks.due("PC after the next instruction", d.cpu(4), 21);
        // With IME on by EI neither of both: the INTERRUPT comes, and goes back behind HALT.
        PocketConsole e = reloadInCycle25(0, 0, 0, 3, 1, 48);
        e.run(5);
        Checks.due("IME on and something PENDING", e.cpu(7), 0);
        Checks.due("IME", e.cpu(6), 1);
        Checks.due("the INTERRUPT", e.run(1), 3);
        Checks.due("PC", e.cpu(4), 24);
        Checks.due("the cell at S", e.cell(239), 21);
    }

    private static void waitsUntilTheEndOfACycle() {
        Checks.sentence("cycles of nothing, until at the end of one something is PENDING");
        PocketConsole c = Checks.with(Scenes.writes(246, 16));
        Checks.put(c, 4, 1, 48);
        c.run(6);
        Checks.due("WAITS", c.cpu(7), 1);
        Checks.due("a long time", c.run(2000), 2000);
        Checks.due("WAITS", c.cpu(7), 1);
        c.keys(1);
        Checks.due("PENDING", c.cell(245), 16);
        Checks.due("a cycle of nothing", c.run(1), 1);
        Checks.due("A", c.cpu(0), 16);
        Checks.due("WAITS", c.cpu(7), 0);
        // Pressed and cleared by nobody, but not in IE: it is not PENDING.
        PocketConsole d = Checks.with(Scenes.writes(246, 15));
        Checks.put(d, 4, 1, 48);
        d.run(6);
        d.keys(1);
        d.run(10);
        Checks.due("WAITS", d.cpu(7), 1);
    }

    private static void stuckPc() {
        Checks.sentence("the first byte of the next instruction is read without PC being 1 more.");
        // HALT is at 254, and 48 at 255: A is 1 more twice, and PC is 0 then.
        PocketConsole c = Checks.with(8, 60);
        Checks.put(c, 60, Scenes.writes(246, 16, 245, 16, 255, 48, 254, 1));
        Checks.put(c, 76, 8, 254);
        c.run(3 + 20 + 3 + 1);
        Checks.due("stuck", c.cpu(7), 2);
        Checks.due("PC", c.cpu(4), 255);
        c.run(1);
        Checks.due("PC", c.cpu(4), 255);
        Checks.due("stuck", c.cpu(7), 0);
        c.run(1);
        Checks.due("PC", c.cpu(4), 0);
        Checks.due("A", c.cpu(0), 3);
    }
}
