/** Promises 4 and 5: run and stop. */
public final class RunAndStopTest {
    public static void main(String[] args) {
        runsWholeInstructions();
        refusesOtherNumbers();
        stopsAtTheStop();
        stopIsForInstructionsAlone();
        tellsTheStopBefore();
        Checks.end();
    }

    private static void runsWholeInstructions() {
        PocketConsole c = Checks.with(12, 100);
        Checks.due("run(0)", c.run(0), 0);
        Checks.due("PC after run(0)", c.cpu(4), 0);
        Checks.due("run(1) of a CALL", c.run(1), 4);
        Checks.due("PC after the CALL", c.cpu(4), 100);
        Checks.due("cycles", c.count(0), 4);
        Checks.due("instructions", c.count(1), 1);
        PocketConsole d = Checks.with(0, 8, 0);
        Checks.due("run(4)", d.run(4), 4);
        Checks.due("run(6)", d.run(6), 8);
        Checks.due("run(2000)", d.run(2000), 2000);
        Checks.due("run(1998)", d.run(1998), 2000);
        // Five cycles, then loops of 2 + 4 cycles: the last CALL begins when 1999 have passed.
        PocketConsole e = Checks.with(0, 0, 0, 0, 0, 15, 240, 12, 5);
        Checks.due("run(2000) that ends with a CALL", e.run(2000), 2003);
        Checks.due("cycles", e.count(0), 2003);
    }

    private static void refusesOtherNumbers() {
        PocketConsole c = new PocketConsole();
        for (int n : new int[] {-1, 2001, Integer.MIN_VALUE, Integer.MAX_VALUE}) {
            Checks.due("run(" + n + ")", c.run(n), -1);
        }
        Checks.due("PC", c.cpu(4), 0);
        Checks.due("cycles", c.count(0), 0);
    }

    private static void stopsAtTheStop() {
        PocketConsole c = Checks.with(0, 0, 0, 8, 0);
        c.stop(2);
        Checks.due("run(100) to the stop", c.run(100), 2);
        Checks.due("PC at the stop", c.cpu(4), 2);
        Checks.due("run(0) at the stop", c.run(0), 0);
        Checks.due("run(100) from the stop round to it", c.run(100), 6);
        Checks.due("run(1) from the stop", c.run(1), 1);
        Checks.due("PC after the stop", c.cpu(4), 3);
        Checks.due("run(2) not to the stop", c.run(2), 3);
        Checks.due("PC", c.cpu(4), 0);
        Checks.due("no stop any more", c.stop(256), 2);
        Checks.due("run(12) without a stop", c.run(12), 12);
        // A jump to itself is not done again.
        PocketConsole d = Checks.with(8, 0);
        d.stop(0);
        Checks.due("a loop of one instruction", d.run(100), 3);
    }

    private static void stopIsForInstructionsAlone() {
        // WAITS with the stop as PC: cycles of waiting go on.
        PocketConsole c = Checks.with(0, 1, 0, 0);
        c.stop(2);
        Checks.due("HALT, and waiting at the stop", c.run(50), 50);
        Checks.due("PC", c.cpu(4), 2);
        Checks.due("WAITS", c.cpu(7), 1);
        // An INTERRUPT in place of the instruction at the stop is done; then comes the stop at its handler.
        PocketConsole d = Checks.with(8, 60);
        Checks.put(d, 60, 16, 1, 14, 246, 3, 14, 245, 0);
        d.stop(67);
        Checks.due("an INTERRUPT at the stop", d.run(30), 30);
        Checks.due("interrupts", d.count(2), 1);
        PocketConsole e = Checks.with(8, 60);
        Checks.put(e, 60, 16, 1, 14, 246, 3, 14, 245, 0);
        e.stop(8);
        Checks.due("the stop at the handler", e.run(30), 3 + 2 + 3 + 1 + 3 + 3);
        Checks.due("PC", e.cpu(4), 8);
        // The first thing is the INTERRUPT, so the instruction at the stop after it is not done.
        PocketConsole f = Checks.with(8, 60);
        Checks.put(f, 60, 16, 1, 14, 246, 3, 14, 245, 0);
        f.run(12);
        f.stop(8);
        Checks.due("an INTERRUPT first", f.run(30), 3);
        Checks.due("PC", f.cpu(4), 8);
        // Waking up with IME off at the stop: the instruction is not done.
        PocketConsole g = Checks.with(16, 16, 14, 246, 1, 0);
        g.run(20);
        g.stop(5);
        g.keys(1);
        Checks.due("WAITS still, after the key", g.cpu(7), 1);
        Checks.due("one more cycle of waiting, then the stop", g.run(30), 1);
        Checks.due("WAITS no more", g.cpu(7), 0);
        Checks.due("PC", g.cpu(4), 5);
    }

    private static void tellsTheStopBefore() {
        PocketConsole c = new PocketConsole();
        Checks.due("stop(0)", c.stop(0), -1);
        Checks.due("stop(255)", c.stop(255), 0);
        Checks.due("stop(-1)", c.stop(-1), 255);
        Checks.due("stop(7)", c.stop(7), -1);
        Checks.due("stop(256)", c.stop(256), 7);
        Checks.due("stop(greatest)", c.stop(Integer.MAX_VALUE), -1);
        Checks.due("stop(least)", c.stop(Integer.MIN_VALUE), -1);
        Checks.due("stop(8)", c.stop(8), -1);
    }
}
