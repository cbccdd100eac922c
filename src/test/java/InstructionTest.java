/** Promise 8, and the processor: what each instruction does, in how many cycles, and when it reads and writes. */
public final class InstructionTest {
    private static PocketConsole c;

    public static void main(String[] args) {
        refusesOthers();
        loads();
        sums();
        comparesAndBits();
        steps();
        shifts();
        jumps();
        stack();
        cellsByNumber();
        wraps();
        firstByteIsMod64();
        effectIsAtOnce();
        cyclesOfEachInstruction();
        Checks.end();
    }

    /** Runs this program from cell 0, n cycles, which must be just what its instructions take. */
    private static void after(int n, int... program) {
        c = Checks.with(program);
        Checks.due("cycles", c.run(n), n);
        Checks.due("PC after the cycles of a program of " + program.length, c.cpu(4), program.length);
    }

    private static void due(String what, int a, int flags) {
        Checks.due("A after " + what, c.cpu(0), a);
        Checks.due("flags after " + what, c.cpu(5), flags);
    }

    private static void refusesOthers() {
        PocketConsole d = new PocketConsole();
        for (int what : new int[] {-1, 8, Integer.MIN_VALUE, Integer.MAX_VALUE}) {
            Checks.due("cpu(" + what + ")", d.cpu(what), -1);
        }
    }

    private static void loads() {
        after(2, 16, 9);
        due("A becomes 9", 9, 0);
        after(2, 17, 9);
        Checks.due("B", c.cpu(1), 9);
        after(2, 18, 9);
        Checks.due("P", c.cpu(2), 9);
        after(5, 18, 100, 19, 9);
        Checks.due("the cell at P", c.cell(100), 9);
        after(3, 17, 9, 21);
        Checks.due("A becomes B", c.cpu(0), 9);
        after(3, 18, 9, 22);
        Checks.due("A becomes P", c.cpu(0), 9);
        after(4, 18, 1, 23);
        Checks.due("A becomes the cell at P", c.cpu(0), 1);
        after(3, 16, 9, 20);
        Checks.due("A becomes A", c.cpu(0), 9);
        after(3, 16, 9, 24);
        Checks.due("A becomes A", c.cpu(0), 9);
        after(3, 16, 9, 25);
        Checks.due("B becomes A", c.cpu(1), 9);
        after(3, 16, 9, 26);
        Checks.due("P becomes A", c.cpu(2), 9);
        after(6, 16, 9, 18, 100, 27);
        Checks.due("the cell at P becomes A", c.cell(100), 9);
        // Loading leaves Z and K: here both are on.
        after(9, 16, 128, 28, 16, 0, 17, 0, 21, 25);
        due("loads of 0 after 128 + 128", 0, 3);
    }

    private static void sums() {
        after(5, 16, 200, 17, 55, 29);
        due("200 + 55", 255, 0);
        after(5, 16, 200, 17, 56, 29);
        due("200 + 56", 0, 3);
        after(5, 16, 200, 17, 57, 29);
        due("200 + 57", 1, 2);
        after(3, 16, 0, 28);
        due("0 + 0", 0, 1);
        after(5, 16, 5, 18, 6, 30);
        due("A + P", 11, 0);
        after(6, 16, 5, 18, 1, 31);
        due("A + the cell at P", 10, 0);
        after(5, 16, 5, 17, 5, 33);
        due("5 - 5", 0, 1);
        after(5, 16, 5, 17, 6, 33);
        due("5 - 6", 255, 2);
        after(5, 16, 6, 17, 5, 33);
        due("6 - 5", 1, 0);
        after(3, 16, 6, 32);
        due("A - A", 0, 1);
        after(6, 16, 6, 18, 0, 35);
        due("6 - the cell at P", 246, 2);
        // 255 + 255 makes K on; then A + B + K, both ways.
        after(6, 16, 255, 28, 17, 1, 61);
        due("254 + 1 + 1", 0, 3);
        after(8, 16, 255, 28, 16, 253, 17, 1, 61);
        due("253 + 1 + 1", 255, 0);
        after(8, 16, 255, 28, 16, 255, 17, 255, 61);
        due("255 + 255 + 1", 255, 2);
        after(5, 16, 5, 17, 6, 61);
        due("5 + 6 + 0", 11, 0);
        after(6, 16, 128, 28, 18, 0, 62);
        due("0 + 0 + 1", 1, 0);
        after(7, 16, 128, 28, 18, 1, 63);
        due("0 + the cell at P + 1", 129, 0);
        after(4, 16, 128, 28, 60);
        due("0 + 0 + 1 with A twice", 1, 0);
    }

    private static void comparesAndBits() {
        after(5, 16, 5, 17, 5, 45);
        due("5 against 5", 5, 1);
        after(5, 16, 5, 17, 6, 45);
        due("5 against 6", 5, 2);
        after(5, 16, 6, 17, 5, 45);
        due("6 against 5", 6, 0);
        after(6, 16, 16, 18, 0, 47);
        due("A against the cell at P", 16, 1);
        // K is on before each of these, and goes off.
        after(8, 16, 255, 28, 16, 12, 17, 10, 37);
        due("12 and 10", 8, 0);
        after(8, 16, 255, 28, 16, 12, 17, 3, 37);
        due("12 and 3", 0, 1);
        after(8, 16, 255, 28, 16, 12, 17, 10, 41);
        due("12 xor 10", 6, 0);
        after(4, 16, 255, 28, 40);
        due("A xor A", 0, 1);
        after(6, 16, 24, 18, 0, 39);
        due("24 and the cell at P", 16, 0);
        after(6, 16, 24, 18, 0, 43);
        due("24 xor the cell at P", 8, 0);
    }

    private static void steps() {
        after(3, 16, 255, 48);
        due("255 + 1", 0, 1);
        after(3, 16, 0, 52);
        due("0 - 1", 255, 0);
        after(3, 16, 1, 52);
        due("1 - 1", 0, 1);
        // K stays, on here.
        after(5, 16, 255, 28, 48, 48);
        due("254 + 2", 0, 3);
        after(4, 16, 255, 28, 52);
        due("254 - 1", 253, 2);
        after(3, 17, 7, 49);
        Checks.due("B + 1", c.cpu(1), 8);
        after(3, 18, 7, 54);
        Checks.due("P - 1", c.cpu(2), 6);
        after(8, 18, 100, 51, 51);
        Checks.due("the cell at P + 1", c.cell(100), 2);
    }

    private static void shifts() {
        after(3, 16, 3, 56);
        due("3 shifted", 1, 2);
        after(4, 16, 3, 56, 56);
        due("3 shifted twice", 128, 2);
        after(5, 16, 3, 56, 56, 56);
        due("3 shifted three times", 192, 0);
        after(3, 16, 1, 56);
        due("1 shifted", 0, 3);
        after(3, 16, 0, 56);
        due("0 shifted", 0, 1);
        after(3, 17, 5, 57);
        Checks.due("B shifted", c.cpu(1), 2);
        Checks.due("flags", c.cpu(5), 2);
        after(3, 18, 4, 58);
        Checks.due("P shifted", c.cpu(2), 2);
        after(8, 18, 100, 19, 5, 59);
        Checks.due("the cell at P shifted", c.cell(100), 2);
        Checks.due("flags", c.cpu(5), 2);
    }

    private static void dueJump(String what, int cycles, int pc, int... program) {
        c = Checks.with(program);
        c.run(1);
        int before = c.count(0);
        while (c.cpu(4) < program.length - 2 && c.cpu(4) != pc) {
            before += c.run(1);
        }
        Checks.due("cycles of " + what, c.run(1), cycles);
        Checks.due("PC after " + what, c.cpu(4), pc);
        Checks.due("cycles in all", c.count(0), before + cycles);
    }

    private static void jumps() {
        // 40 makes Z on and K off; 16 128 28 makes both on; 16 255 28 makes K on alone.
        dueJump("8", 3, 99, 0, 8, 99);
        dueJump("9 with Z", 3, 99, 40, 9, 99);
        dueJump("9 without Z", 2, 3, 0, 9, 99);
        dueJump("10 without Z", 3, 99, 0, 10, 99);
        dueJump("10 with Z", 2, 3, 40, 10, 99);
        dueJump("11 without K", 2, 3, 40, 11, 99);
        dueJump("11 with K", 3, 99, 16, 255, 28, 11, 99);
        dueJump("9 with K alone", 2, 5, 16, 255, 28, 9, 99);
        dueJump("10 with K alone", 3, 99, 16, 255, 28, 10, 99);
    }

    private static void stack() {
        after(5, 16, 9, 6);
        Checks.due("S after 6", c.cpu(3), 239);
        Checks.due("the cell at S", c.cell(239), 9);
        after(9, 16, 9, 6, 16, 0, 7);
        Checks.due("A comes back", c.cpu(0), 9);
        Checks.due("S", c.cpu(3), 240);
        after(2, 15, 77);
        Checks.due("S becomes n", c.cpu(3), 77);
        c = Checks.with(0, 12, 50);
        Checks.put(c, 50, 4);
        c.run(5);
        Checks.due("PC after CALL", c.cpu(4), 50);
        Checks.due("S after CALL", c.cpu(3), 239);
        Checks.due("the cell at S after CALL", c.cell(239), 3);
        Checks.due("cycles of RET", c.run(1), 3);
        Checks.due("PC after RET", c.cpu(4), 3);
        Checks.due("S after RET", c.cpu(3), 240);
        Checks.due("IME after RET", c.cpu(6), 0);
        c = Checks.with(15, 100, 5);
        c.put(100, 60);
        c.run(2);
        Checks.due("cycles of 5", c.run(1), 3);
        Checks.due("PC after 5", c.cpu(4), 60);
        Checks.due("IME after 5", c.cpu(6), 1);
        Checks.due("S after 5", c.cpu(3), 101);
    }

    private static void cellsByNumber() {
        after(3, 13, 1);
        due("A read at 1", 1, 0);
        after(5, 16, 9, 14, 100);
        Checks.due("A written at 100", c.cell(100), 9);
    }

    private static void wraps() {
        // S from 0 to 255, which is WX, and back.
        after(7, 15, 0, 16, 9, 6);
        Checks.due("S after 6 from 0", c.cpu(3), 255);
        Checks.due("WX", c.cell(255), 9);
        after(4, 15, 255, 7);
        Checks.due("S after 7 from 255", c.cpu(3), 0);
        // PC from 255 to 0: registers are instructions, too. WX 16 is there, its n is in cell 0.
        c = Checks.with(33);
        Checks.put(c, 100, 16, 16, 14, 255, 8, 255);
        c.reset(100);
        Checks.due("cycles", c.run(9), 10);
        due("16 at 255 and 33 at 0", 33, 0);
        Checks.due("PC", c.cpu(4), 1);
        after(3, 18, 255, 50);
        Checks.due("P from 255", c.cpu(2), 0);
        Checks.due("flags", c.cpu(5), 1);
    }

    private static void firstByteIsMod64() {
        for (int high = 64; high < 256; high += 64) {
            after(5, 16 + high, 200, 17 + high, 57, 29 + high);
            due("200 + 57 with " + high, 1, 2);
        }
    }

    private static void effectIsAtOnce() {
        // DIV is read in the third cycle of 13 241: the DIVIDER is 10 + 3 then.
        c = Checks.with(0, 0, 0, 0, 0, 0, 0, 0, 0, 0, 13, 241);
        c.run(13);
        Checks.due("DIV as read", c.cpu(0), 3);
        // The cell at P is read in the cycle before it is written: DIV counts up, but is 0 after any writing.
        c = Checks.with(18, 241, 0, 0, 0, 0, 51);
        c.run(9);
        Checks.due("the DIVIDER after its writing", c.timer(0), 0);
        // n is read first, then the cell at P is written: an instruction that changes its own n.
        c = Checks.with(18, 3, 19, 77);
        c.run(5);
        Checks.due("the cell of n", c.cell(3), 77);
        // An instruction that changes the next one.
        c = Checks.with(16, 48, 14, 5, 0, 0);
        c.run(7);
        Checks.due("A after the instruction written", c.cpu(0), 49);
    }

    private static void cyclesOfEachInstruction() {
        int[] plain = {1, 1, 1, 1, 3, 3, 3, 2, 3, 2, 3, 2, 4, 3, 3, 2};
        int[] atP = {3, 2, 2, 2, 2, 2, 2, 2, 3, 3, 3, 2};
        for (int op = 0; op < 64; op++) {
            c = Checks.with(op, 100);
            int due = op < 16 ? plain[op] : op % 4 == 3 ? atP[(op - 16) / 4] : op < 20 ? 2 : 1;
            Checks.due("cycles of " + op, c.run(1), due);
            Checks.due("instructions after " + op, c.count(1), 1);
        }
    }
}
