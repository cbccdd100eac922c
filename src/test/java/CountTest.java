/** Promise 13: count. */
public final class CountTest {
    public static void main(String[] args) {
        refusesOthers();
        countsCyclesAndInstructions();
        countsInterrupts();
        countsPicturesAndPixels();
        goesOnThroughReset();
        Checks.end();
    }

    private static void refusesOthers() {
        PocketConsole c = new PocketConsole();
        for (int what : new int[] {-1, 7, Integer.MIN_VALUE, Integer.MAX_VALUE}) {
            Checks.due("count(" + what + ")", c.count(what), -1);
        }
    }

    private static void countsCyclesAndInstructions() {
        // 2 + 3 + 4 cycles in three instructions, then HALT, then waiting: cycles, but no instructions.
        PocketConsole c = Checks.with(16, 5, 14, 100, 12, 50);
        c.put(50, 1);
        c.run(9);
        Checks.due("cycles", c.count(0), 9);
        Checks.due("instructions", c.count(1), 3);
        c.run(1);
        Checks.due("instructions with HALT", c.count(1), 4);
        c.run(100);
        c.run(2001);
        c.run(0);
        Checks.due("cycles with waiting", c.count(0), 110);
        Checks.due("instructions with waiting", c.count(1), 4);
        for (int what = 2; what < 7; what++) {
            Checks.due("count(" + what + ")", c.count(what), 0);
        }
    }

    private static void countsInterrupts() {
        PocketConsole c = Checks.with(8, 60);
        Checks.put(c, 40, 3, 1);
        Checks.put(c, 60, 16, 16, 14, 246, 3, 1);
        c.run(20);
        for (int i = 1; i <= 3; i++) {
            c.keys(0);
            c.keys(i);
            c.run(10);
            Checks.due("interrupts", c.count(2), i);
            Checks.due("instructions", c.count(1), 5 + 2 * i);
        }
        Checks.due("interrupts that ended with PC 0", c.count(3), 0);
        // S 247 lets PC be written into IE: 68 has nothing of 16.
        PocketConsole d = Checks.with(8, 60);
        Checks.put(d, 60, 16, 16, 14, 246, 15, 247, 3, 1);
        d.run(20);
        d.keys(1);
        d.run(3);
        Checks.due("interrupts", d.count(2), 1);
        Checks.due("interrupts that ended with PC 0", d.count(3), 1);
        Checks.due("PC", d.cpu(4), 0);
    }

    private static void countsPicturesAndPixels() {
        PocketConsole c = Scenes.on(9, 250, 3);
        c.run(28);
        Checks.due("pixels of a line, without the dropped ones", c.count(6), 12);
        c.run(197);
        Checks.due("pixels of a picture", c.count(6), 96);
        Checks.due("pictures", c.count(4), 1);
        c.run(336 * 5);
        Checks.due("pixels of six pictures", c.count(6), 96 * 6);
        Checks.due("pictures", c.count(4), 6);
        Checks.due("cells copied", c.count(5), 0);
    }

    private static void goesOnThroughReset() {
        PocketConsole c = Checks.with(16, 5, 14, 253, 1);
        c.save(0);
        c.run(10);
        c.reset(0);
        c.run(10);
        c.load(0);
        c.run(10);
        // Cycles 6 is HALT, 7 to 10 copy four cells each time.
        Checks.due("cycles", c.count(0), 30);
        Checks.due("instructions", c.count(1), 9);
        Checks.due("cells copied", c.count(5), 12);
    }
}
