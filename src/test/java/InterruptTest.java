/** Promise 8, and the processor: IME, EI, INTERRUPTS and HALT. */
public final class InterruptTest {
    public static void main(String[] args) {
        eiWorksAfterTheNext();
        eiThenOff();
        eiAndAnInterruptInBetween();
        interruptTakesTheLeast();
        interruptLooksAgain();
        onlyWhatIsInBothIsPending();
        imeOffHoldsThemBack();
        haltWaits();
        haltWakesByATimer();
        haltWithEi();
        haltWithSomethingPending();
        stuckPcReadsTwice();
        Checks.end();
    }

    /** A program at 60 on that writes IE, then these bytes; handlers are empty cells. */
    private static PocketConsole withIe(int ie, int... bytes) {
        PocketConsole c = Checks.with(8, 60);
        Checks.put(c, 60, 16, ie, 14, 246);
        Checks.put(c, 64, bytes);
        c.run(8);
        return c;
    }

    private static void eiWorksAfterTheNext() {
        PocketConsole c = Checks.with(3, 8, 10);
        c.run(1);
        Checks.due("IME after EI", c.cpu(6), 2);
        c.run(1);
        Checks.due("IME after the next", c.cpu(6), 1);
        // Twice: the first works after the second, and one is still to come.
        PocketConsole d = Checks.with(3, 3, 2, 0);
        d.run(2);
        Checks.due("IME after EI, EI", d.cpu(6), 1);
        d.run(1);
        Checks.due("IME after EI, EI, off", d.cpu(6), 0);
        d.run(1);
        Checks.due("IME one more", d.cpu(6), 0);
        // What is PENDING waits for the next instruction: it is done before the INTERRUPT.
        PocketConsole e = withIe(31, 14, 245, 3, 48, 48);
        e.run(3);
        Checks.due("IF", e.cell(245), 31);
        e.run(1);
        Checks.due("no INTERRUPT after EI", e.count(2), 0);
        e.run(1);
        Checks.due("A after the next", e.cpu(0), 32);
        Checks.due("no INTERRUPT yet", e.count(2), 0);
        Checks.due("cycles of the INTERRUPT", e.run(1), 3);
        Checks.due("A after the INTERRUPT", e.cpu(0), 32);
        Checks.due("PC", e.cpu(4), 8);
        Checks.due("the cell at S", e.cell(e.cpu(3)), 68);
    }

    private static void eiThenOff() {
        PocketConsole c = Checks.with(3, 2, 0, 0);
        c.run(2);
        Checks.due("IME after EI, off", c.cpu(6), 0);
        c.run(1);
        Checks.due("IME after one more", c.cpu(6), 0);
        PocketConsole d = Checks.with(3, 0, 2, 0);
        d.run(2);
        Checks.due("IME on", d.cpu(6), 1);
        d.run(1);
        Checks.due("IME off", d.cpu(6), 0);
    }

    private static void eiAndAnInterruptInBetween() {
        // IME is on, then EI once more, with IF written by the instruction before: the INTERRUPT comes after EI.
        PocketConsole c = withIe(16, 3, 0, 3, 0);
        c.run(3);
        Checks.due("IME on, EI to come", c.cpu(6), 1);
        c.keys(1);
        Checks.due("the INTERRUPT", c.run(1), 3);
        Checks.due("interrupts", c.count(2), 1);
        Checks.due("PC", c.cpu(4), 40);
        Checks.due("IME: EI is still to come", c.cpu(6), 2);
        c.run(1);
        Checks.due("IME after the handler's first", c.cpu(6), 1);
    }

    private static void interruptTakesTheLeast() {
        PocketConsole c = withIe(30, 3, 14, 245, 0);
        c.run(4);
        for (int k = 1; k < 5; k++) {
            Checks.due("cycles of the INTERRUPT for bit " + k, c.run(1), 3);
            Checks.due("PC", c.cpu(4), 8 + 8 * k);
            Checks.due("IF", c.cell(245), 30 & -(2 << k));
            Checks.due("IME", c.cpu(6), 0);
            Checks.due("S", c.cpu(3), 240 - k);
            Checks.due("interrupts", c.count(2), k);
            c.put(8 + 8 * k, 3);
            c.run(2);
        }
        Checks.due("interrupts that ended with PC 0", c.count(3), 0);
    }

    private static void interruptLooksAgain() {
        // S is 247, so PC is written into IE: 69 has bit 0 on, as IF has; 70 has not, so nothing is PENDING any more.
        PocketConsole c = withIe(1, 15, 247, 3, 14, 245, 0);
        c.run(6);
        Checks.due("the INTERRUPT", c.run(1), 3);
        Checks.due("IE", c.cell(246), 69);
        Checks.due("PC with bit 0 PENDING still", c.cpu(4), 8);
        PocketConsole d = withIe(1, 15, 247, 3, 0, 14, 245, 0);
        d.run(7);
        Checks.due("the INTERRUPT", d.run(1), 3);
        Checks.due("IE", d.cell(246), 70);
        Checks.due("PC with nothing PENDING now", d.cpu(4), 0);
        Checks.due("IF", d.cell(245), 1);
        Checks.due("interrupts", d.count(2), 1);
        Checks.due("interrupts that ended with PC 0", d.count(3), 1);
        // S is 246: PC goes into IF, and another bit is taken than the one that began it.
        PocketConsole e = withIe(31, 15, 246, 3, 0, 0, 0, 14, 245);
        e.run(9);
        Checks.due("IF", e.cell(245), 31);
        Checks.due("the INTERRUPT", e.run(1), 3);
        Checks.due("PC, as 72 has bit 3", e.cpu(4), 32);
        Checks.due("IF, bit 3 off again", e.cell(245), 72 % 32 - 8);
    }

    private static void onlyWhatIsInBothIsPending() {
        PocketConsole c = withIe(224 + 2, 3, 0, 16, 29, 14, 245, 0, 0, 0);
        c.run(12);
        Checks.due("no INTERRUPT", c.count(2), 0);
        Checks.due("IE", c.cell(246), 226);
        Checks.due("IF", c.cell(245), 29);
    }

    private static void imeOffHoldsThemBack() {
        PocketConsole c = withIe(31, 14, 245, 0, 0, 0, 0);
        c.run(7);
        Checks.due("no INTERRUPT", c.count(2), 0);
        Checks.due("PC", c.cpu(4), 70);
    }

    private static void haltWaits() {
        PocketConsole c = withIe(16, 1, 48);
        Checks.due("cycles of HALT", c.run(1), 1);
        Checks.due("WAITS", c.cpu(7), 1);
        Checks.due("waiting", c.run(100), 100);
        Checks.due("instructions", c.count(1), 4);
        Checks.due("PC", c.cpu(4), 65);
        c.keys(1);
        Checks.due("run(0)", c.run(0), 0);
        Checks.due("WAITS until the end of a cycle", c.cpu(7), 1);
        Checks.due("one cycle", c.run(1), 1);
        Checks.due("WAITS no more", c.cpu(7), 0);
        Checks.due("A", c.cpu(0), 16);
        c.run(1);
        Checks.due("A after the next instruction", c.cpu(0), 17);
        Checks.due("no INTERRUPT, as IME is off", c.count(2), 0);
        Checks.due("PC", c.cpu(4), 66);
        // A bit that is not in IE wakes nobody.
        PocketConsole d = withIe(1, 1, 48);
        d.run(5);
        d.keys(1);
        d.run(50);
        Checks.due("WAITS", d.cpu(7), 1);
    }

    private static void haltWakesByATimer() {
        // TAC 5 is written in cycle 18 with the DIVIDER 18, bit 1 on. It goes off in cycle 20, after HALT in 19, and
        // the RELOAD comes in 21.
        PocketConsole c = withIe(4, 16, 255, 14, 242, 16, 5, 14, 244, 1, 0);
        c.run(10);
        Checks.due("cycles so far", c.count(0), 18);
        Checks.due("HALT", c.run(1), 1);
        Checks.due("WAITS", c.cpu(7), 1);
        Checks.due("waiting", c.run(1), 1);
        Checks.due("RELOAD is due", c.timer(1), 1);
        Checks.due("WAITS", c.cpu(7), 1);
        Checks.due("waiting", c.run(1), 1);
        Checks.due("IF", c.cell(245), 4);
        Checks.due("WAITS no more at the end of that cycle", c.cpu(7), 0);
    }

    private static void haltWithEi() {
        // EI, HALT with something PENDING: IME is on by then, so there is an INTERRUPT, and it comes back behind HALT.
        PocketConsole c = withIe(1, 14, 245, 3, 1, 0);
        c.run(3);
        c.run(2);
        Checks.due("IME", c.cpu(6), 1);
        Checks.due("neither waiting nor stuck", c.cpu(7), 0);
        Checks.due("the INTERRUPT", c.run(1), 3);
        Checks.due("PC", c.cpu(4), 8);
        Checks.due("the cell at S", c.cell(239), 68);
        // Without: it WAITS with IME on, and a key brings the INTERRUPT.
        PocketConsole d = withIe(16, 3, 1, 0);
        d.run(20);
        Checks.due("IME", d.cpu(6), 1);
        Checks.due("WAITS", d.cpu(7), 1);
        d.keys(16);
        Checks.due("a cycle of waiting, then the INTERRUPT", d.run(2), 4);
        Checks.due("PC", d.cpu(4), 40);
        Checks.due("the cell at S", d.cell(239), 66);
    }

    private static void haltWithSomethingPending() {
        PocketConsole c = withIe(1, 14, 245, 1, 48, 48, 0);
        c.run(3);
        Checks.due("HALT", c.run(1), 1);
        Checks.due("stuck", c.cpu(7), 2);
        Checks.due("PC", c.cpu(4), 67);
        c.run(1);
        Checks.due("stuck no more", c.cpu(7), 0);
        Checks.due("PC is the same", c.cpu(4), 67);
        Checks.due("A", c.cpu(0), 2);
        c.run(1);
        Checks.due("A after the same once more", c.cpu(0), 3);
        Checks.due("PC", c.cpu(4), 68);
    }

    private static void stuckPcReadsTwice() {
        // 16 n with PC stuck: n is the 16 itself, and the byte behind it is the next instruction.
        PocketConsole c = withIe(1, 14, 245, 1, 16, 48, 0);
        c.run(4);
        Checks.due("cycles of 16 n", c.run(1), 2);
        Checks.due("A is the first byte", c.cpu(0), 16);
        Checks.due("PC", c.cpu(4), 68);
        c.run(1);
        Checks.due("A after 48", c.cpu(0), 17);
        // HALT behind HALT: stuck again.
        PocketConsole d = withIe(1, 14, 245, 1, 1, 0);
        d.run(5);
        Checks.due("stuck again", d.cpu(7), 2);
        Checks.due("PC", d.cpu(4), 67);
        // A CALL writes the PC behind its n, which is its own first byte here: 12.
        PocketConsole e = withIe(1, 14, 245, 1, 12, 0);
        e.run(4);
        Checks.due("cycles of CALL", e.run(1), 4);
        Checks.due("PC", e.cpu(4), 12);
        Checks.due("the cell at S", e.cell(239), 68);
    }
}
