import java.util.Random;

/**
 * All promises: random programs and calls, with the same answers from PocketConsole and from PlainConsole. Each object
 * is used for at most 512 calls, and the seeds are fixed, so that every run of this test is the same.
 */
public final class ModelTest {
    private static final int OBJECTS = 4000;
    private static final int MOST_CALLS = 512;
    // For the last act, two close looks, and what main asks.
    private static final int CALLS_KEPT = 70;

    private final Random random;
    private final PocketConsole real = new PocketConsole();
    private final PlainConsole model = new PlainConsole();
    private final StringBuilder story = new StringBuilder();
    private int calls = 0;
    private boolean good = true;

    private ModelTest(long seed) {
        random = new Random(seed);
    }

    public static void main(String[] args) {
        int wrong = 0;
        long pixels = 0;
        for (int seed = 0; seed < OBJECTS; seed++) {
            ModelTest test = new ModelTest(seed);
            test.play();
            pixels += test.real.count(6);
            if (!test.good) {
                wrong++;
                if (wrong <= 5) {
                    System.out.println("seed " + seed + ":" + test.story);
                }
            }
        }
        Checks.due("objects with an answer that is not as due", wrong, 0);
        Checks.due("the random programs draw pictures", pixels > 100000, true);
        Checks.end();
    }

    private void play() {
        int[] memory = new int[240];
        for (int a = 0; a < 240; a++) {
            memory[a] = random.nextInt(256);
        }
        if (random.nextInt(8) != 0) {
            writeProgram(memory);
        }
        placeSprites(memory);
        for (int a = 0; a < 240; a++) {
            both("put(" + a + ", " + memory[a] + ")", real.put(a, memory[a]), model.put(a, memory[a]));
        }
        // The seed tells these again.
        story.setLength(0);
        // Some objects are looked at closely, so that a fault is told where it begins; the others are rather let live
        // for long, with their keys, saves and loads.
        boolean closely = random.nextInt(4) == 0;
        while (good && calls < MOST_CALLS - CALLS_KEPT) {
            act();
            if (closely) {
                observe();
            } else {
                glance();
            }
        }
        observe();
    }

    private void glance() {
        int what = near(0, 7);
        switch (random.nextInt(4)) {
            case 0: both("cpu(" + what + ")", real.cpu(what), model.cpu(what)); break;
            case 1: both("timer(" + what + ")", real.timer(what), model.timer(what)); break;
            case 2: both("video(" + what + ")", real.video(what), model.video(what)); break;
            default: both("picture()", real.picture(), model.picture()); break;
        }
        int a = near(240, 255);
        both("cell(" + a + ")", real.cell(a), model.cell(a));
    }

    private int near(int low, int high) {
        return low + random.nextInt(high - low + 1);
    }

    private void placeSprites(int[] memory) {
        for (int i = 0; i < 4; i++) {
            memory[192 + 4 * i] = random.nextInt(6) == 0 ? random.nextInt(256) : random.nextInt(8);
            memory[193 + 4 * i] = random.nextInt(6) == 0 ? random.nextInt(256) : random.nextInt(12);
        }
        // A second set, for copying from cell 208.
        System.arraycopy(memory, 192, memory, 208, 16);
        memory[208] = random.nextInt(8);
        memory[213] = random.nextInt(12);
    }

    private int valueFor(int register) {
        if (random.nextInt(10) == 0) {
            return random.nextInt(256);
        }
        switch (register) {
            case 242: return near(250, 255);
            case 243: return near(250, 255);
            case 244: return near(4, 7);
            case 246: return random.nextInt(32);
            case 247: return random.nextInt(5) == 0 ? random.nextInt(16) : 1 + 2 * random.nextInt(8);
            case 249: return random.nextInt(16);
            case 250: return random.nextInt(16);
            case 252: return random.nextInt(12);
            case 253: return random.nextInt(3) == 0 ? random.nextInt(256) : 13;
            case 254: return random.nextInt(8);
            case 255: return random.nextInt(12);
            default: return random.nextInt(256);
        }
    }

    private void writeProgram(int[] memory) {
        int at = 0;
        boolean handlers = random.nextBoolean();
        if (handlers) {
            memory[at++] = 8;
            memory[at++] = 48;
            for (int k = 0; k < 5; k++) {
                at = 8 + 8 * k;
                int register = near(240, 255);
                memory[at++] = 16;
                memory[at++] = valueFor(register);
                memory[at++] = 14;
                memory[at++] = register;
                memory[at++] = random.nextInt(64);
                memory[at++] = random.nextInt(4) == 0 ? 4 : 5;
            }
            at = 48;
        }
        int end = handlers ? 120 : near(30, 120);
        int loop = at;
        while (at < end) {
            at = writePiece(memory, at);
        }
        memory[at++] = 8;
        memory[at] = random.nextInt(3) == 0 ? random.nextInt(at) : loop;
    }

    private int writePiece(int[] memory, int from) {
        int at = from;
        int register = random.nextInt(3) == 0 ? 247 : near(240, 255);
        switch (random.nextInt(10)) {
            case 0: case 1: case 2: case 3:
                memory[at++] = 16;
                memory[at++] = valueFor(register);
                memory[at++] = 14;
                memory[at++] = register;
                break;
            case 4:
                memory[at++] = 18;
                memory[at++] = random.nextBoolean() ? register : random.nextInt(256);
                memory[at++] = 19 + 4 * random.nextInt(12);
                break;
            case 5:
                memory[at++] = random.nextInt(4);
                break;
            case 6:
                memory[at++] = 13;
                memory[at++] = random.nextBoolean() ? register : near(128, 210);
                memory[at++] = random.nextInt(64);
                break;
            case 7:
                memory[at++] = 14;
                memory[at++] = near(128, 245);
                break;
            case 8:
                memory[at++] = 15;
                memory[at++] = random.nextInt(3) == 0 ? near(240, 250) : near(209, 240);
                break;
            default:
                memory[at++] = near(16, 63) + 64 * random.nextInt(4);
                break;
        }
        return at;
    }

    private void act() {
        int n;
        switch (random.nextInt(16)) {
            case 0:
                n = random.nextInt(4) == 0 ? random.nextInt() : random.nextInt(256);
                both("keys(" + n + ")", real.keys(n), model.keys(n));
                break;
            case 1:
                n = random.nextInt(4) == 0 ? near(-3, 300) : random.nextInt(128);
                both("stop(" + n + ")", real.stop(n), model.stop(n));
                break;
            case 2:
                int a = near(-2, 242);
                n = random.nextInt();
                both("put(" + a + ", " + n + ")", real.put(a, n), model.put(a, n));
                break;
            case 3:
                n = near(-1, 2);
                both("save(" + n + ")", real.save(n), model.save(n));
                break;
            case 4:
                n = near(-1, 2);
                both("load(" + n + ")", real.load(n), model.load(n));
                break;
            case 5:
                n = random.nextInt(3) == 0 ? near(-2, 258) : 0;
                both("reset(" + n + ")", real.reset(n), model.reset(n));
                break;
            case 6:
                n = near(-10, 2010);
                both("run(" + n + ")", real.run(n), model.run(n));
                break;
            case 7: case 8: case 9:
                n = random.nextInt(400);
                both("run(" + n + ")", real.run(n), model.run(n));
                break;
            default:
                n = random.nextInt(30);
                both("run(" + n + ")", real.run(n), model.run(n));
                break;
        }
    }

    private void observe() {
        for (int what = 0; what < 8; what++) {
            both("cpu(" + what + ")", real.cpu(what), model.cpu(what));
        }
        for (int what = 0; what < 3; what++) {
            both("timer(" + what + ")", real.timer(what), model.timer(what));
        }
        for (int what = 0; what < 5; what++) {
            both("video(" + what + ")", real.video(what), model.video(what));
        }
        int any = near(-2, 10);
        both("cpu(" + any + ")", real.cpu(any), model.cpu(any));
        both("timer(" + any + ")", real.timer(any), model.timer(any));
        both("video(" + any + ")", real.video(any), model.video(any));
        both("count(" + any + ")", real.count(any), model.count(any));
        int x = near(-1, 12);
        int y = near(-1, 8);
        both("pixel(" + x + ", " + y + ")", real.pixel(x, y), model.pixel(x, y));
        both("picture()", real.picture(), model.picture());
        for (int i = 0; i < 8; i++) {
            int a = i < 4 ? near(240, 255) : near(-1, 256);
            both("cell(" + a + ")", real.cell(a), model.cell(a));
        }
    }

    private void both(String call, boolean got, boolean want) {
        both(call, got ? 1 : 0, want ? 1 : 0);
    }

    private void both(String call, long got, long want) {
        calls++;
        if (!good) {
            return;
        }
        if (!isLook(call) || got != want) {
            story.append(' ').append(call);
        }
        if (got != want) {
            story.append(" answered ").append(got).append(", due is ").append(want);
            good = false;
        }
    }

    private static boolean isLook(String call) {
        return call.matches("(cell|cpu|timer|video|pixel|picture|count)\\(.*");
    }
}
