/** Promise 1: all is as said at first. */
public final class NewObjectTest {
    public static void main(String[] args) {
        PocketConsole c = new PocketConsole();
        for (int a = 0; a < 256; a++) {
            // PAD is 0, but reads with a bit on for each chosen key that is up.
            Checks.due("cell(" + a + ") at first", c.cell(a), a == 240 ? 15 : 0);
        }
        for (int what = 0; what < 8; what++) {
            Checks.due("cpu(" + what + ") at first", c.cpu(what), what == 3 ? 240 : 0);
        }
        for (int what = 0; what < 3; what++) {
            Checks.due("timer(" + what + ") at first", c.timer(what), 0);
        }
        for (int what = 0; what < 5; what++) {
            Checks.due("video(" + what + ") at first", c.video(what), what == 0 ? -1 : 0);
        }
        for (int what = 0; what < 7; what++) {
            Checks.due("count(" + what + ") at first", c.count(what), 0);
        }
        for (int y = 0; y < 8; y++) {
            for (int x = 0; x < 12; x++) {
                Checks.due("pixel(" + x + ", " + y + ") at first", c.pixel(x, y), 0);
            }
        }
        Checks.due("picture at first", c.picture(), 0);
        Checks.due("nothing saved in 0", c.load(0), false);
        Checks.due("nothing saved in 1", c.load(1), false);
        Checks.due("no keys at first", c.keys(0), 0);
        Checks.due("no stop at first", c.stop(-1), -1);
        Checks.end();
    }
}
