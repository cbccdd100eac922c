/** Consoles for tests of the video and of registers, with programs whose cycles can be told at a glance. */
final class Scenes {
    private Scenes() {
    }

    /** The bytes that write these values into these registers: pairs (register, value), five cycles for each pair. */
    static int[] writes(int... pairs) {
        int[] program = new int[2 * pairs.length];
        for (int i = 0; i < pairs.length; i += 2) {
            program[2 * i] = 16;
            program[2 * i + 1] = pairs[i + 1];
            program[2 * i + 2] = 14;
            program[2 * i + 3] = pairs[i];
        }
        return program;
    }

    /**
     * A console that has written these pairs, then LCDC, and is to HALT: no DOT was done yet, and as nothing is
     * allowed to interrupt, run(n) is n DOTS from here on.
     */
    static PocketConsole on(int lcdc, int... pairs) {
        int[] before = writes(pairs);
        PocketConsole c = Checks.with(before);
        Checks.put(c, before.length, 16, lcdc, 14, 247, 1);
        c.run(before.length / 4 * 5 + 5);
        return c;
    }

    /** As on, but the cycles of the DOTS 0, 1, .. are those of this program. */
    static PocketConsole onThen(int[] program, int lcdc, int... pairs) {
        PocketConsole c = on(lcdc, pairs);
        Checks.put(c, c.cpu(4), program);
        return c;
    }

    /** A program that writes v into this register in the cycle of this DOT (4 or more), and HALTs then. */
    static int[] writeAtDot(int dot, int register, int v) {
        int[] program = new int[dot + 1];
        program[0] = 16;
        program[1] = v;
        program[dot - 2] = 14;
        program[dot - 1] = register;
        program[dot] = 1;
        return program;
    }

    /**
     * A console with the video on that begins this program in the cycle of this DOT (2 or more), counted from the
     * first one: it WAITS until then, and a key wakes it. Bit 4 of IF and of IE is on then, IME off.
     */
    static PocketConsole onAt(int first, int[] program, int lcdc, int... pairs) {
        int[] all = new int[pairs.length + 2];
        System.arraycopy(pairs, 0, all, 2, pairs.length);
        all[0] = 246;
        all[1] = 16;
        PocketConsole c = on(lcdc, all);
        Checks.put(c, c.cpu(4) + 1, program);
        c.run(first - 1);
        c.keys(1);
        c.run(1);
        if (c.count(0) != all.length / 2 * 5 + 5 + first || c.cpu(7) != 0) {
            throw new IllegalStateException("the program does not begin at DOT " + first);
        }
        return c;
    }

    /** What the processor reads at a, where 42 is, in the cycle of this DOT (4 or more), counted from the first one. */
    static int readAtDot(int dot, int a) {
        PocketConsole c = onAt(dot - 2, new int[] {13, a}, 1);
        c.put(a, 42);
        c.run(3);
        return c.cpu(0);
    }

    /** What cell a, 42 before, has after the processor wrote 1 there in the cycle of this DOT (4 or more). */
    static int writtenAtDot(int dot, int a) {
        PocketConsole c = onAt(dot - 2, new int[] {14, a}, 1);
        c.put(a, 42);
        c.run(3);
        return c.cell(a);
    }

    /** A program in cells 208 on, which copying does not shut off; cell a of 0..191 has a. */
    static PocketConsole from208(int... program) {
        PocketConsole c = new PocketConsole();
        for (int a = 0; a < 192; a++) {
            c.put(a, a);
        }
        Checks.put(c, 208, program);
        c.reset(208);
        return c;
    }

    /** Gives a tile its four rows. */
    static void tile(PocketConsole c, int tile, int... rows) {
        Checks.put(c, 128 + 4 * tile, rows);
    }

    /** Makes tile t all of colour t mod 4, for each of the eight. */
    static void plainTiles(PocketConsole c) {
        for (int t = 0; t < 8; t++) {
            int row = t % 4 * 85;
            tile(c, t, row, row, row, row);
        }
    }

    /** Looks at the pixels of line y from 0 on: one digit each. */
    static void dueLine(String what, PocketConsole c, int y, String digits) {
        StringBuilder got = new StringBuilder();
        for (int x = 0; x < 12; x++) {
            got.append(c.pixel(x, y));
        }
        boolean same = got.toString().equals(digits);
        if (!same) {
            System.out.println(what + ": line " + y + " is " + got + ", due is " + digits);
        }
        Checks.due(what + ": line " + y + " as due", same, true);
    }
}
