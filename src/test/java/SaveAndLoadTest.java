import java.util.ArrayList;
import java.util.List;

/** Promises 14 and 15: save and load. */
public final class SaveAndLoadTest {
    public static void main(String[] args) {
        refusesOthers();
        comesBackAtEveryMoment();
        comesBackWhole();
        keepsWhatIsNotSaved();
        slotsAreApart();
        savedOnceLoadedOften();
        Checks.end();
    }

    private static void refusesOthers() {
        PocketConsole c = Checks.with(16, 9);
        c.run(2);
        for (int slot : new int[] {-1, 2, Integer.MIN_VALUE, Integer.MAX_VALUE}) {
            Checks.due("save(" + slot + ")", c.save(slot), false);
            Checks.due("load(" + slot + ")", c.load(slot), false);
        }
        Checks.due("load(0) of nothing", c.load(0), false);
        Checks.due("load(1) of nothing", c.load(1), false);
        Checks.due("A after refused loads", c.cpu(0), 9);
        Checks.due("PC after refused loads", c.cpu(4), 2);
        Checks.due("save(1)", c.save(1), true);
        Checks.due("load(0) of nothing", c.load(0), false);
        Checks.due("load(1)", c.load(1), true);
    }

    private static List<Long> looks(PocketConsole c) {
        List<Long> all = new ArrayList<>();
        for (int a = 192; a < 256; a++) {
            all.add((long) c.cell(a));
        }
        for (int what = 0; what < 8; what++) {
            all.add((long) c.cpu(what));
        }
        for (int what = 0; what < 3; what++) {
            all.add((long) c.timer(what));
        }
        for (int what = 0; what < 5; what++) {
            all.add((long) c.video(what));
        }
        all.add(c.picture());
        return all;
    }

    /** Everything goes on at once: the timer with RELOADS and INTERRUPTS, copying, a picture with sprites and WINDOW. */
    private static PocketConsole busy() {
        PocketConsole c = Checks.with(8, 60);
        Checks.put(c, 24, 16, 13, 14, 253, 5);
        int[] before = Scenes.writes(246, 4, 243, 220, 242, 250, 244, 5, 250, 2, 255, 6, 248, 40);
        Checks.put(c, 60, before);
        Checks.put(c, 60 + before.length, 16, 15, 14, 247, 3, 1, 8, 92);
        for (int i = 0; i < 32; i++) {
            c.put(128 + i, 37 * i + 11);
            c.put(160 + i, 5 * i + 3);
        }
        Checks.put(c, 192, 1, 2, 3, 0, 3, 7, 5, 3, 2, 4, 6, 4, 5, 0, 1, 1);
        Checks.put(c, 208, 0, 3, 2, 1, 2, 8, 4, 0, 4, 2, 1, 4, 5, 9, 7, 2);
        return c;
    }

    private static void comesBackAtEveryMoment() {
        int different = 0;
        for (int moment = 40; moment < 460; moment++) {
            PocketConsole c = busy();
            c.run(moment);
            c.save(1);
            List<Long> now = looks(c);
            c.run(337);
            List<Long> later = looks(c);
            c.keys(255);
            c.reset(3);
            c.run(50);
            Checks.due("load at " + moment, c.load(1), true);
            Checks.due("as it was saved at " + moment, looks(c).equals(now), true);
            c.run(337);
            Checks.due("goes on as after the saving at " + moment, looks(c).equals(later), true);
            different += now.equals(later) ? 0 : 1;
        }
        Checks.due("and things did change", different, 420);
    }

    private static void comesBackWhole() {
        PocketConsole c = busy();
        c.run(700);
        c.keys(9);
        Checks.due("something is shown", c.picture() != 0, true);
        long picture = c.picture();
        int[] cells = new int[100];
        for (int a = 0; a < 100; a++) {
            cells[a] = c.cell(a);
        }
        c.save(0);
        c.keys(6);
        for (int a = 0; a < 100; a++) {
            c.put(a, 1);
        }
        c.load(0);
        for (int a = 0; a < 100; a++) {
            Checks.due("cell " + a + " after load", c.cell(a), cells[a]);
        }
        Checks.due("picture after load", c.picture(), picture);
        Checks.due("keys after load", c.keys(0), 9);
        // The picture that is shown is saved, too: a new one in between is gone.
        PocketConsole d = Scenes.on(9);
        d.save(0);
        Scenes.tile(d, 0, 255, 255, 255, 255);
        d.run(300);
        Checks.due("pixel of the new one", d.pixel(5, 5), 3);
        d.load(0);
        Checks.due("pixel after load", d.pixel(5, 5), 0);
        // So is what is drawn of the next one: lines 0 to 3 before the saving, with 3, the others after with 0.
        PocketConsole e = Scenes.on(9);
        Scenes.tile(e, 0, 255, 255, 255, 255);
        e.run(28 * 4);
        e.save(1);
        Scenes.tile(e, 0, 85, 85, 85, 85);
        e.run(600);
        e.load(1);
        Scenes.tile(e, 0, 0, 0, 0, 0);
        e.run(28 * 4 + 1);
        Scenes.dueLine("drawn before the saving", e, 3, "333333333333");
        Scenes.dueLine("drawn after the loading", e, 4, "000000000000");
    }

    private static void keepsWhatIsNotSaved() {
        PocketConsole c = Checks.with(1);
        c.run(10);
        c.stop(5);
        c.save(0);
        c.stop(6);
        c.run(20);
        c.load(0);
        Checks.due("cycles after load", c.count(0), 30);
        Checks.due("DIVIDER after load", c.timer(0), 10);
        Checks.due("the stop after load", c.stop(7), 6);
        c.load(0);
        Checks.due("the stop after load", c.stop(-1), 7);
    }

    private static void slotsAreApart() {
        PocketConsole c = Checks.with(48, 48, 48, 48, 48);
        c.run(1);
        c.save(0);
        c.run(1);
        c.save(1);
        c.run(1);
        c.load(0);
        Checks.due("A from slot 0", c.cpu(0), 1);
        c.load(1);
        Checks.due("A from slot 1", c.cpu(0), 2);
        c.run(2);
        c.save(0);
        c.load(1);
        Checks.due("A from slot 1 again", c.cpu(0), 2);
        c.load(0);
        Checks.due("A from slot 0, saved anew", c.cpu(0), 4);
    }

    private static void savedOnceLoadedOften() {
        PocketConsole c = Checks.with(48, 48, 48, 48, 48);
        c.run(2);
        c.save(0);
        for (int i = 0; i < 3; i++) {
            c.run(3);
            c.put(1, 99);
            Checks.due("load", c.load(0), true);
            Checks.due("A", c.cpu(0), 2);
            Checks.due("PC", c.cpu(4), 2);
            Checks.due("cell 1", c.cell(1), 48);
        }
    }
}
