import java.io.ByteArrayInputStream;
import java.io.ByteArrayOutputStream;
import java.io.IOException;
import java.io.ObjectInputStream;
import java.io.ObjectOutputStream;
import java.io.Serializable;
import java.util.ArrayDeque;
import java.util.ArrayList;
import java.util.Deque;
import java.util.List;

/**
 * The document told a second time, in another shape, for ModelTest: instructions are straight lines of code that let
 * cycles pass, what is copied is reckoned from cycle numbers, and sprites and strips are objects.
 */
final class PlainConsole {

    private static final class Sprite implements Serializable {
        private static final long serialVersionUID = 1;
        int number;
        int left;
        int row;
        boolean fetched;
        boolean behind;
        final int[] pixels = new int[4];
    }

    private static final class State implements Serializable {
        private static final long serialVersionUID = 1;
        final int[] cells = new int[240];
        final int[] written = new int[16];
        int flags;
        int keys;
        int a;
        int b;
        int p;
        int s = 240;
        int pc;
        boolean z;
        boolean k;
        boolean ime;
        boolean ei;
        boolean waits;
        boolean stuck;
        int divider;
        boolean signal;
        int tima;
        boolean reloadDue;
        boolean reloadNow;
        long time;
        long[] copyBegins = new long[0];
        int[] copyFrom = new int[0];
        boolean copied;
        int dot = -1;
        int ly;
        int mode;
        boolean line;
        int x;
        int drop;
        boolean busy;
        boolean window;
        int windows;
        int nextStrip;
        final Deque<Integer> strip = new ArrayDeque<>();
        final List<Sprite> taken = new ArrayList<>();
        int[] drawn = new int[96];
        int[] shown = new int[96];
    }

    private State t = new State();
    private final byte[][] slots = new byte[2][];
    private final int[] counts = new int[7];
    private int stop = -1;
    private int passed;

    // ---- calls

    boolean put(int a, int v) {
        if (a < 0 || a > 239) {
            return false;
        }
        t.cells[a] = Math.floorMod(v, 256);
        return true;
    }

    boolean reset(int pc) {
        if (pc < 0 || pc > 255) {
            return false;
        }
        State fresh = new State();
        System.arraycopy(t.cells, 0, fresh.cells, 0, 240);
        fresh.keys = t.keys;
        fresh.shown = t.shown;
        fresh.pc = pc;
        t = fresh;
        return true;
    }

    int run(int n) {
        if (n < 0 || n > 2000) {
            return -1;
        }
        passed = 0;
        boolean first = true;
        while (passed < n) {
            if (t.waits) {
                cycle();
                t.waits = pending() == 0;
            } else if (t.ime && pending() != 0) {
                interrupt();
            } else if (t.pc == stop && !first) {
                break;
            } else {
                instruction();
            }
            first = false;
        }
        counts[0] += passed;
        return passed;
    }

    int stop(int pc) {
        int before = stop;
        stop = pc == (pc & 255) ? pc : -1;
        return before;
    }

    int keys(int down) {
        int before = t.keys;
        int pad = padBits();
        t.keys = Math.floorMod(down, 256);
        if ((pad & (padBits() ^ 15)) != 0) {
            t.flags |= 16;
        }
        return before;
    }

    int cell(int a) {
        if (a < 0 || a > 255) {
            return -1;
        }
        if (a < 240) {
            return t.cells[a];
        }
        switch (a) {
            case 240: return t.written[0] / 16 % 4 * 16 + padBits();
            case 241: return t.divider / 4;
            case 242: return t.tima;
            case 245: return t.flags;
            case 248: return t.written[8] / 8 % 16 * 8 + t.mode + (on(0) && t.ly == t.written[12] ? 4 : 0);
            case 251: return t.ly;
            default: return t.written[a - 240];
        }
    }

    int cpu(int what) {
        int[] all = {t.a, t.b, t.p, t.s, t.pc, (t.z ? 1 : 0) + (t.k ? 2 : 0), t.ime ? 1 : t.ei ? 2 : 0,
            t.waits ? 1 : t.stuck ? 2 : 0};
        return what >= 0 && what < 8 ? all[what] : -1;
    }

    int timer(int what) {
        switch (what) {
            case 0: return t.divider;
            case 1: return t.reloadDue ? 1 : 0;
            case 2:
                for (int i = 0; i < t.copyBegins.length; i++) {
                    long begin = t.copyBegins[i];
                    boolean begun = begin <= t.time;
                    boolean replaced = i + 1 < t.copyBegins.length && t.copyBegins[i + 1] <= t.time;
                    if (begun && !replaced && t.time < begin + 15) {
                        return (int) (begin + 15 - t.time);
                    }
                    if (!begun) {
                        return 16;
                    }
                }
                return 0;
            default: return -1;
        }
    }

    int video(int what) {
        switch (what) {
            case 0: return t.dot;
            case 1: return t.mode;
            case 2: return t.mode == 3 ? t.x : 0;
            case 3: return t.taken.size();
            case 4: return t.windows;
            default: return -1;
        }
    }

    int pixel(int x, int y) {
        return x < 0 || x > 11 || y < 0 || y > 7 ? -1 : t.shown[y * 12 + x];
    }

    long picture() {
        long sum = 0;
        for (int v : t.shown) {
            sum = sum * 31 + v;
        }
        return sum;
    }

    int count(int what) {
        return what >= 0 && what < 7 ? counts[what] : -1;
    }

    boolean save(int slot) {
        if (slot != 0 && slot != 1) {
            return false;
        }
        try {
            ByteArrayOutputStream bytes = new ByteArrayOutputStream();
            ObjectOutputStream out = new ObjectOutputStream(bytes);
            out.writeObject(t);
            out.flush();
            slots[slot] = bytes.toByteArray();
        } catch (IOException e) {
            throw new IllegalStateException(e);
        }
        return true;
    }

    boolean load(int slot) {
        if (slot != 0 && slot != 1 || slots[slot] == null) {
            return false;
        }
        try {
            t = (State) new ObjectInputStream(new ByteArrayInputStream(slots[slot])).readObject();
        } catch (IOException | ClassNotFoundException e) {
            throw new IllegalStateException(e);
        }
        return true;
    }

    // ---- the processor

    private int pending() {
        return t.flags & t.written[6] & 31;
    }

    private void interrupt() {
        t.ime = false;
        cycle();
        t.s = low(t.s - 1);
        write(t.s, t.pc);
        cycle();
        counts[2]++;
        int due = pending();
        if (due == 0) {
            t.pc = 0;
            counts[3]++;
        } else {
            int k = Integer.numberOfTrailingZeros(due);
            t.flags -= 1 << k;
            t.pc = 8 + 8 * k;
        }
    }

    private void instruction() {
        boolean eiBefore = t.ei;
        t.ei = false;
        int op = read(t.pc) % 64;
        if (!t.stuck) {
            t.pc = low(t.pc + 1);
        }
        t.stuck = false;
        if (op >= 16) {
            reckon((op - 16) / 4, op % 4);
        } else {
            simple(op);
        }
        if (eiBefore && op != 2) {
            t.ime = true;
        }
        if (op == 1) {
            t.waits = pending() == 0;
            t.stuck = pending() != 0 && !t.ime;
        }
        counts[1]++;
    }

    private void simple(int op) {
        int n;
        switch (op) {
            case 2: t.ime = false; break;
            case 3: t.ei = true; break;
            case 4:
            case 5:
                n = read(t.s);
                t.s = low(t.s + 1);
                cycle();
                t.pc = n;
                if (op == 5) {
                    t.ime = true;
                }
                break;
            case 6: cycle(); t.s = low(t.s - 1); write(t.s, t.a); break;
            case 7: t.a = read(t.s); t.s = low(t.s + 1); break;
            case 8: jump(true); break;
            case 9: jump(t.z); break;
            case 10: jump(!t.z); break;
            case 11: jump(t.k); break;
            case 12: n = next(); cycle(); t.s = low(t.s - 1); write(t.s, t.pc); t.pc = n; break;
            case 13: n = next(); t.a = read(n); break;
            case 14: n = next(); write(n, t.a); break;
            case 15: t.s = next(); break;
            default: break;
        }
    }

    private void jump(boolean yes) {
        int n = next();
        if (yes) {
            cycle();
            t.pc = n;
        }
    }

    private int getR(int r) {
        return r == 0 ? t.a : r == 1 ? t.b : r == 2 ? t.p : read(t.p);
    }

    private void setR(int r, int v) {
        switch (r) {
            case 0: t.a = v; break;
            case 1: t.b = v; break;
            case 2: t.p = v; break;
            default: write(t.p, v); break;
        }
    }

    private void reckon(int k, int r) {
        int v;
        int out;
        switch (k) {
            case 0: v = next(); setR(r, v); break;
            case 1: t.a = getR(r); break;
            case 2: setR(r, t.a); break;
            case 3: v = getR(r); out = t.a + v; t.k = out > 255; t.a = flagged(out); break;
            case 4: v = getR(r); out = t.a - v; t.k = v > t.a; t.a = flagged(out); break;
            case 5: v = getR(r); t.k = false; t.a = flagged(t.a & v); break;
            case 6: v = getR(r); t.k = false; t.a = flagged(t.a ^ v); break;
            case 7: v = getR(r); t.k = v > t.a; flagged(t.a - v); break;
            case 8: v = getR(r); setR(r, flagged(v + 1)); break;
            case 9: v = getR(r); setR(r, flagged(v - 1)); break;
            case 10: v = getR(r); out = v / 2 + (t.k ? 128 : 0); t.k = v % 2 == 1; setR(r, flagged(out)); break;
            default: v = getR(r); out = t.a + v + (t.k ? 1 : 0); t.k = out > 255; t.a = flagged(out); break;
        }
    }

    private int flagged(int result) {
        t.z = low(result) == 0;
        return low(result);
    }

    private static int low(int v) {
        return Math.floorMod(v, 256);
    }

    private int next() {
        int n = read(t.pc);
        t.pc = low(t.pc + 1);
        return n;
    }

    private boolean shut(int a) {
        boolean video = a >= 128 && a <= 191;
        boolean sprites = a >= 192 && a <= 207;
        return t.copied && a <= 207 || video && t.mode == 3 || sprites && (t.mode == 2 || t.mode == 3);
    }

    private int read(int a) {
        cycle();
        return shut(a) ? 255 : cell(a);
    }

    private void write(int a, int v) {
        cycle();
        if (a >= 240) {
            writeRegister(a, v);
            look();
        } else if (!shut(a)) {
            t.cells[a] = v;
        }
    }

    private void writeRegister(int a, int v) {
        int before = t.written[a - 240];
        int pad = padBits();
        if (a == 242) {
            if (!t.reloadNow) {
                t.tima = v;
                t.reloadDue = false;
            }
            return;
        }
        t.written[a - 240] = v;
        switch (a) {
            case 240:
                if ((pad & (padBits() ^ 15)) != 0) {
                    t.flags |= 16;
                }
                break;
            case 241: t.divider = 0; edge(); break;
            case 243:
                if (t.reloadNow) {
                    t.tima = v;
                }
                break;
            case 244: edge(); break;
            case 245: t.flags = v % 32; break;
            case 247:
                if (before % 2 != v % 2) {
                    t.dot = -1;
                    t.ly = 0;
                    t.mode = 0;
                    t.windows = 0;
                    t.taken.clear();
                }
                break;
            case 253: addCopy(v); break;
            default: break;
        }
    }

    private int padBits() {
        int bits = 0;
        for (int j = 0; j < 4; j++) {
            boolean lowDown = (t.written[0] >> 4) % 2 == 0 && (t.keys >> j) % 2 == 1;
            boolean highDown = (t.written[0] >> 5) % 2 == 0 && (t.keys >> 4 + j) % 2 == 1;
            bits += lowDown || highDown ? 0 : 1 << j;
        }
        return bits;
    }

    // ---- a cycle

    private void cycle() {
        passed++;
        t.time++;
        t.reloadNow = t.reloadDue;
        t.reloadDue = false;
        if (t.reloadNow) {
            t.tima = t.written[3];
            t.flags |= 4;
        }
        t.divider = (t.divider + 1) % 1024;
        edge();
        copy();
        if (on(0)) {
            dot();
            look();
        }
    }

    private void edge() {
        int tac = t.written[4];
        int[] bits = {5, 1, 2, 3};
        boolean now = tac / 4 % 2 == 1 && (t.divider >> bits[tac % 4]) % 2 == 1;
        if (t.signal && !now) {
            t.tima++;
            if (t.tima == 256) {
                t.tima = 0;
                t.reloadDue = true;
            }
        }
        t.signal = now;
    }

    private void addCopy(int n) {
        int size = t.copyBegins.length;
        t.copyBegins = java.util.Arrays.copyOf(t.copyBegins, size + 1);
        t.copyFrom = java.util.Arrays.copyOf(t.copyFrom, size + 1);
        t.copyBegins[size] = t.time + 2;
        t.copyFrom[size] = n % 16 * 16;
    }

    private void copy() {
        t.copied = false;
        for (int i = t.copyBegins.length - 1; i >= 0; i--) {
            if (t.copyBegins[i] <= t.time) {
                int k = (int) Math.min(16, t.time - t.copyBegins[i]);
                if (k < 16) {
                    int from = t.copyFrom[i] + k;
                    t.cells[192 + k] = from > 239 ? 255 : t.cells[from];
                    t.copied = true;
                    counts[5]++;
                }
                return;
            }
        }
    }

    // ---- the video

    private boolean on(int bit) {
        return (t.written[7] >> bit) % 2 == 1;
    }

    private void look() {
        int stat = t.written[8];
        boolean now = on(0)
            && (t.mode == 0 && (stat & 8) > 0 || t.mode == 1 && (stat & 16) > 0 || t.mode == 2 && (stat & 32) > 0
                || t.ly == t.written[12] && (stat & 64) > 0);
        if (now && !t.line) {
            t.flags |= 2;
        }
        t.line = now;
    }

    private void dot() {
        t.dot++;
        if (t.dot == 28) {
            t.dot = 0;
            t.ly = t.ly == 11 ? 0 : t.ly + 1;
        }
        if (t.dot == 0) {
            t.taken.clear();
            t.window = false;
            if (t.ly == 0) {
                t.windows = 0;
                t.drawn = new int[96];
            }
            if (t.ly == 8) {
                t.shown = t.drawn.clone();
                t.flags |= 1;
                counts[4]++;
            }
        }
        if (t.ly > 7) {
            t.mode = 1;
        } else if (t.dot < 4) {
            t.mode = 2;
            take(t.dot);
        } else {
            if (t.dot == 4) {
                t.x = 0;
                t.strip.clear();
                t.nextStrip = 0;
                t.drop = t.written[10] % 4;
                t.busy = false;
            }
            t.mode = t.x < 12 ? 3 : 0;
            if (t.mode == 3) {
                draw();
            }
        }
    }

    private void take(int i) {
        int row = t.ly - t.cells[192 + 4 * i];
        if (row >= 0 && row <= 3 && t.taken.size() < 2 && !t.copied) {
            Sprite sprite = new Sprite();
            sprite.number = i;
            sprite.row = row;
            sprite.left = t.cells[193 + 4 * i];
            t.taken.add(sprite);
        }
    }

    private void draw() {
        if (t.busy) {
            t.busy = false;
            return;
        }
        if (on(1) && t.ly >= t.written[14] && t.x == t.written[15] && !t.window) {
            t.window = true;
            t.windows++;
            t.strip.clear();
            t.nextStrip = 0;
            t.drop = 0;
            t.busy = true;
            return;
        }
        if (on(2)) {
            for (Sprite sprite : t.taken) {
                if (!sprite.fetched && sprite.left == t.x) {
                    fetch(sprite);
                    t.busy = true;
                    return;
                }
            }
        }
        if (t.strip.isEmpty()) {
            fill();
        }
        int pixel = t.strip.remove();
        if (t.drop > 0) {
            t.drop--;
        } else {
            t.drawn[12 * t.ly + t.x] = colour(pixel);
            t.x++;
            counts[6]++;
        }
    }

    private void fetch(Sprite sprite) {
        int tile = t.cells[194 + 4 * sprite.number] % 8;
        int look = t.cells[195 + 4 * sprite.number];
        int row = (look & 2) > 0 ? 3 - sprite.row : sprite.row;
        for (int i = 0; i < 4; i++) {
            sprite.pixels[(look & 1) > 0 ? 3 - i : i] = tilePixel(tile, row, i);
        }
        sprite.behind = (look & 4) > 0;
        sprite.fetched = true;
    }

    private int tilePixel(int tile, int row, int column) {
        return t.cells[128 + 4 * tile + row] / (int) Math.pow(4, 3 - column) % 4;
    }

    private void fill() {
        int row = t.window ? t.windows - 1 : t.ly + t.written[9];
        int column = t.window ? t.nextStrip : t.written[10] / 4 + t.nextStrip;
        int tile = t.cells[(t.window ? 176 : 160) + 4 * (row / 4 % 4) + column % 4] % 8;
        for (int i = 0; i < 4; i++) {
            t.strip.add(tilePixel(tile, row % 4, i));
        }
        t.nextStrip++;
    }

    private int colour(int stripPixel) {
        int back = on(3) ? stripPixel : 0;
        Sprite best = null;
        for (Sprite sprite : t.taken) {
            int column = t.x - sprite.left;
            if (on(2) && sprite.fetched && column >= 0 && column <= 3 && sprite.pixels[column] != 0
                && (best == null || sprite.left < best.left)) {
                best = sprite;
            }
        }
        if (best == null || best.behind && back != 0) {
            return back;
        }
        return 4 + best.pixels[t.x - best.left];
    }
}
