/** Promise 6: keys, and the PAD. */
public final class KeysTest {
    public static void main(String[] args) {
        answersThoseBefore();
        chosenKeysShow();
        bitsThatGoOffTell();
        writingThePadTells();
        Checks.end();
    }

    private static PocketConsole withPad(int v) {
        PocketConsole c = Checks.with(Scenes.writes(240, v));
        c.run(5);
        return c;
    }

    private static void answersThoseBefore() {
        PocketConsole c = new PocketConsole();
        Checks.due("keys(1)", c.keys(1), 0);
        Checks.due("keys(256 + 130)", c.keys(386), 1);
        Checks.due("keys(-1)", c.keys(-1), 130);
        Checks.due("keys(least + 6)", c.keys(Integer.MIN_VALUE + 6), 255);
        Checks.due("keys(0)", c.keys(0), 6);
    }

    private static void chosenKeysShow() {
        // Keys 1 (low four) and 6 (high four: its bit is 2).
        int[][] rows = {{0, 15 - 2 - 4}, {16, 16 + 15 - 4}, {32, 32 + 15 - 2}, {48, 48 + 15}, {255, 48 + 15}, {207, 9}};
        for (int[] row : rows) {
            PocketConsole c = withPad(row[0]);
            c.keys(2 + 64);
            Checks.due("PAD " + row[0] + " with keys 1 and 6", c.cell(240), row[1]);
        }
        PocketConsole c = withPad(0);
        c.keys(1 + 16);
        Checks.due("PAD with both keys of bit 0", c.cell(240), 14);
        c.keys(255);
        Checks.due("PAD with all keys", c.cell(240), 0);
    }

    private static void bitsThatGoOffTell() {
        PocketConsole c = withPad(16);
        c.keys(1);
        Checks.due("IF after a key that is not chosen", c.cell(245), 0);
        c.keys(1 + 128);
        Checks.due("IF after a chosen key", c.cell(245), 16);
        // The program clears IF: keys that stay down, or come up, are no news.
        PocketConsole d = Checks.with(0, 0, 14, 245, 0, 0);
        d.keys(8);
        Checks.due("IF after key 3", d.cell(245), 16);
        d.run(5);
        Checks.due("IF written", d.cell(245), 0);
        d.keys(8);
        Checks.due("IF after the same key again", d.cell(245), 0);
        d.keys(8 + 128);
        Checks.due("IF after the other key of the same bit", d.cell(245), 0);
        d.keys(128);
        Checks.due("IF after one of both came up", d.cell(245), 0);
        d.keys(0);
        Checks.due("IF after the last came up", d.cell(245), 0);
        d.keys(4);
        Checks.due("IF after one goes down", d.cell(245), 16);
    }

    private static void writingThePadTells() {
        // Key 5 is down, at first not chosen; then PAD chooses it.
        PocketConsole c = Checks.with(Scenes.writes(240, 32, 240, 0, 245, 0, 240, 48, 240, 16));
        c.run(5);
        c.keys(32);
        Checks.due("IF with the key not chosen", c.cell(245), 0);
        c.run(5);
        Checks.due("IF with the key chosen by writing", c.cell(245), 16);
        c.run(5);
        Checks.due("IF cleared", c.cell(245), 0);
        c.run(5);
        Checks.due("IF with the key not chosen again", c.cell(245), 0);
        Checks.due("PAD with nothing chosen", c.cell(240), 63);
        c.run(5);
        Checks.due("IF with the high four chosen", c.cell(245), 16);
        Checks.due("PAD with the high four chosen", c.cell(240), 16 + 13);
    }
}
