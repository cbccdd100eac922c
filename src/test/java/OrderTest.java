/** Promise 16, and the order of things in a cycle. */
public final class OrderTest {
    public static void main(String[] args) {
        imeOnCountsFirst();
        resetTurnsNoBitOn();
        loadTurnsNoBitOn();
        refusedCallsChangeNothing();
        timerBeforeProcessor();
        copyingBeforeVideo();
        videoBeforeProcessor();
        bitsOfIfStay();
        Checks.end();
    }

    private static void imeOnCountsFirst() {
        PocketConsole c = Checks.with(3, 3, 3, 2);
        int[] due = {2, 1, 1, 0};
        for (int i = 0; i < 4; i++) {
            c.run(1);
            Checks.due("cpu(6) after " + (i + 1) + " instructions", c.cpu(6), due[i]);
        }
    }

    private static void resetTurnsNoBitOn() {
        // Nothing is chosen, keys are down; reset chooses all, as PAD is 0 then.
        PocketConsole c = Checks.with(Scenes.writes(240, 48));
        c.run(5);
        c.keys(255);
        Checks.due("IF with nothing chosen", c.cell(245), 0);
        c.reset(0);
        Checks.due("IF after reset", c.cell(245), 0);
        Checks.due("PAD after reset", c.cell(240), 0);
        c.run(2);
        Checks.due("IF after some cycles", c.cell(245), 0);
        c.keys(255);
        Checks.due("IF after the same keys", c.cell(245), 0);
        // The timer's SIGNAL and the LINE go off by reset, with no effect.
        PocketConsole d = Checks.with(Scenes.writes(244, 5, 248, 64, 247, 1));
        d.run(15);
        d.reset(0);
        Checks.due("TIMA after reset", d.cell(242), 0);
        Checks.due("IF after reset", d.cell(245), 0);
    }

    private static void loadTurnsNoBitOn() {
        PocketConsole c = Checks.with(Scenes.writes(245, 0, 245, 0));
        c.keys(255);
        c.run(5);
        Checks.due("IF cleared", c.cell(245), 0);
        c.save(0);
        c.keys(0);
        c.load(0);
        Checks.due("IF after load", c.cell(245), 0);
        Checks.due("PAD after load", c.cell(240), 0);
        c.keys(255);
        Checks.due("IF after the same keys", c.cell(245), 0);
        // And the other way: a bit that was on when it was saved is on.
        PocketConsole d = Checks.with(0, 14, 245);
        d.keys(1);
        d.save(0);
        d.run(4);
        Checks.due("IF cleared", d.cell(245), 0);
        d.load(0);
        Checks.due("IF after load", d.cell(245), 16);
    }

    private static void refusedCallsChangeNothing() {
        PocketConsole c = Scenes.on(15, 244, 5);
        c.run(100);
        c.save(0);
        long before = sum(c);
        c.put(-1, 5);
        c.put(240, 5);
        c.put(247, 0);
        c.reset(-1);
        c.reset(256);
        c.run(-1);
        c.run(2001);
        c.cell(-1);
        c.cell(256);
        c.cpu(8);
        c.timer(3);
        c.video(5);
        c.pixel(12, 0);
        c.count(7);
        c.save(2);
        c.save(-1);
        c.load(1);
        c.load(2);
        Checks.due("all after refused calls", sum(c), before);
    }

    private static long sum(PocketConsole c) {
        long sum = c.picture();
        for (int a = 128; a < 256; a++) {
            sum = sum * 7 + c.cell(a);
        }
        for (int what = 0; what < 8; what++) {
            sum = sum * 7 + c.cpu(what) + 3 * c.count(what);
            sum = sum * 7 + c.timer(what) + 5 * c.video(what);
        }
        return sum;
    }

    private static void timerBeforeProcessor() {
        // 13 242: its third cycle is 12, in which TIMA goes to 2: the processor reads 2.
        PocketConsole c = Checks.with(16, 5, 14, 244, 0, 0, 0, 0, 13, 242);
        c.run(12);
        Checks.due("TIMA as read in cycle 12", c.cpu(0), 2);
        Checks.due("TIMA", c.cell(242), 2);
        // IF is written in the cycle of a RELOAD, 17: the processor comes last.
        PocketConsole d = Checks.with(Scenes.writes(242, 254, 244, 5));
        Checks.put(d, 8, 0, 0, 0, 0, 14, 245, 1);
        d.run(10);
        Checks.due("TIMA in cycle 10", d.cell(242), 254);
        d.run(6);
        Checks.due("IF in cycle 17, as written", d.cell(245), 5);
        Checks.due("TIMA in cycle 17", d.cell(242), 0);
    }

    private static void copyingBeforeVideo() {
        // Sprite 0 is looked at in the cycle after its last cell was copied, so it is TAKEN as copied; a cycle earlier
        // it is not TAKEN at all. Copying of 16 cells is in cycles 7 to 22; LCDC is written in 21, 22 or 23.
        for (int late = 0; late < 3; late++) {
            PocketConsole c = new PocketConsole();
            int[] program = new int[24];
            System.arraycopy(new int[] {16, 12, 14, 253, 16, 1}, 0, program, 0, 6);
            program[6 + 11 + late] = 14;
            program[6 + 12 + late] = 247;
            program[6 + 13 + late] = 1;
            Checks.put(c, 208, program);
            c.reset(208);
            c.run(7 + 11 + late + 3);
            Checks.due("no DOT yet", c.video(0), -1);
            c.run(1);
            Checks.due("TAKEN at DOT 0 in cycle " + (22 + late), c.video(3), late == 0 ? 0 : 1);
        }
    }

    private static void bitsOfIfStay() {
        // Each source turns on its own bit, and leaves the others as they were written: all but that one.
        PocketConsole key = Checks.with(Scenes.writes(245, 15));
        key.run(5);
        key.keys(2);
        Checks.due("IF with a key", key.cell(245), 31);
        PocketConsole reload = Checks.with(Scenes.writes(245, 27, 242, 255, 244, 5));
        Checks.put(reload, 12, 1);
        reload.run(16);
        Checks.due("IF before the RELOAD", reload.cell(245), 27);
        reload.run(1);
        Checks.due("IF with the RELOAD", reload.cell(245), 31);
        PocketConsole line = Scenes.on(1, 245, 29, 252, 1, 248, 64);
        line.run(28);
        Checks.due("IF before the LINE", line.cell(245), 29);
        line.run(1);
        Checks.due("IF with the LINE", line.cell(245), 31);
        PocketConsole picture = Scenes.on(1, 245, 30);
        picture.run(224);
        Checks.due("IF before the picture", picture.cell(245), 30);
        picture.run(1);
        Checks.due("IF with the picture", picture.cell(245), 31);
    }

    private static void videoBeforeProcessor() {
        // LY is read in the cycle of DOT 0 of line 1, which is DOT 28.
        int[] program = new int[32];
        program[26] = 13;
        program[27] = 251;
        program[28] = 1;
        PocketConsole c = Scenes.onThen(program, 1);
        c.run(29);
        Checks.due("LY as read", c.cpu(0), 1);
        // What the processor writes into VIDEO in the cycle of DOT 3, 9 here, is in the picture from DOT 4 on.
        PocketConsole d = Scenes.onThen(new int[] {18, 128, 27, 1}, 9);
        d.run(225);
        Scenes.dueLine("written at DOT 3", d, 0, "002100210021");
    }
}
