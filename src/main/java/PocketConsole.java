public final class PocketConsole {

    // One array holds the whole state, so that saving and loading are plain copying and nothing can be forgotten.
    // It begins with the 256 cells; the registers have their own numbers in it.
    private static final int TILES = 128;
    private static final int MAP = 160;
    private static final int WINDOW_MAP = 176;
    private static final int SPRITES = 192;
    private static final int SPRITES_END = 208;
    private static final int REGISTERS = 240;
    private static final int PAD = 240;
    private static final int DIV = 241;
    private static final int TIMA = 242;
    private static final int TMA = 243;
    private static final int TAC = 244;
    private static final int IF = 245;
    private static final int IE = 246;
    private static final int LCDC = 247;
    private static final int STAT = 248;
    private static final int SCY = 249;
    private static final int SCX = 250;
    private static final int LY = 251;
    private static final int LYC = 252;
    private static final int DMA = 253;
    private static final int WY = 254;
    private static final int WX = 255;
    private static final int CELLS = 256;

    // A, B and P stand in the order of r in an instruction.
    private static final int A = 256;
    private static final int B = 257;
    private static final int P = 258;
    private static final int S = 259;
    private static final int PC = 260;
    private static final int Z = 261;
    private static final int K = 262;
    private static final int IME = 263;
    private static final int EI_DUE = 264;
    private static final int HALTED = 265;

    private static final int DIVIDER = 266;
    private static final int RELOAD_DUE = 267;

    private static final int COPY_DELAY = 268;
    private static final int COPY_FROM = 269;
    private static final int COPY_LEFT = 270;

    private static final int LINE = 271;

    // From here to VIDEO_END the state of the video: all of it is 0 while it is off.
    // DOTS counts the dots done in this line, so that 0 can stand for "none yet".
    private static final int DOTS = 272;
    private static final int MODE = 273;
    private static final int X = 274;
    private static final int DROP = 275;
    private static final int PAUSE = 276;
    private static final int STRIP = 277;
    private static final int STRIP_LEFT = 278;
    private static final int STRIP_NEXT = 279;
    private static final int WINDOW_HERE = 280;
    private static final int WINDOW_LINES = 281;
    private static final int TAKEN = 282;
    // Two places each, one for each sprite that can be TAKEN in a line.
    private static final int TAKEN_SPRITE = 283;
    private static final int TAKEN_ROW = 285;
    private static final int TAKEN_X = 287;
    private static final int FETCHED = 289;
    private static final int FETCHED_PIXELS = 291;
    private static final int FETCHED_LOOK = 293;
    private static final int VIDEO_END = 295;

    private static final int DRAWN = 295;
    // What stands from KEYS on outlives a reset.
    private static final int KEYS = 391;
    private static final int SHOWN = 392;
    private static final int STATE_SIZE = 488;

    private static final int SLOTS = 2;
    private static final int SAVED_SIZE = 976;

    private static final int FIRST_S = 240;
    private static final int WIDTH = 12;
    private static final int HEIGHT = 8;
    private static final int LINES = 12;
    private static final int DOTS_IN_LINE = 28;
    private static final int PIXELS = 96;
    private static final int MOST_TAKEN = 2;
    private static final int COPY_CELLS = 16;

    private static final int VIDEO_ON = 1;
    private static final int WINDOW_ON = 2;
    private static final int SPRITES_ON = 4;
    private static final int BACKGROUND_ON = 8;

    private static final int PICTURE_BIT = 1;
    private static final int LINE_BIT = 2;
    private static final int TIMER_BIT = 4;
    private static final int KEY_BIT = 16;

    private static final int WAITS = 1;
    private static final int STUCK_PC = 2;

    // What the processor can do in one cycle; STEPS has them as digits of four bits, the next one lowest.
    private static final int READ_FIRST = 1;
    private static final int READ_NEXT = 2;
    private static final int NOTHING = 3;
    private static final int PULL = 4;
    private static final int PUSH = 5;
    private static final int READ_AT_P = 6;
    private static final int WRITE_AT_P = 7;
    private static final int READ_AT_N = 8;
    private static final int WRITE_AT_N = 9;

    // What is done in place of an instruction has a number above those of instructions.
    private static final int INTERRUPT = 64;
    private static final int WAITING = 65;

    private static final int CYCLES = 0;
    private static final int INSTRUCTIONS = 1;
    private static final int INTERRUPTS = 2;
    private static final int INTERRUPTS_TO_0 = 3;
    private static final int PICTURES = 4;
    private static final int COPIED = 5;
    private static final int DRAWN_PIXELS = 6;
    private static final int COUNTS = 7;

    private static final int MOST_RUN = 2000;
    // The longest instruction has four cycles, so that no run goes more than three beyond MOST_RUN.
    private static final int RUN_BOUND = 2010;

    private final int[] state = new int[STATE_SIZE];
    private final int[] saved = new int[SAVED_SIZE];
    private final boolean[] isSaved = new boolean[SLOTS];
    private final int[] counted = new int[COUNTS];
    private int stopAt = -1;

    // These live within a call alone: every call ends between two instructions, so they are not saved.
    private int doing = 0;
    private int steps = 0;
    private int data = 0;
    private boolean reloadNow = false;
    private boolean copiedNow = false;

    public PocketConsole() {
        state[S] = FIRST_S;
    }

    public boolean put(int a, int v) {
        if (a < 0 || a >= REGISTERS) {
            return false;
        }
        state[a] = v & 255;
        return true;
    }

    public boolean reset(int pc) {
        if (pc < 0 || pc > 255) {
            return false;
        }
        for (int i = REGISTERS; i < KEYS; i++) {
            state[i] = 0;
        }
        state[S] = FIRST_S;
        state[PC] = pc;
        return true;
    }

    public int run(int n) {
        if (n < 0 || n > MOST_RUN) {
            return -1;
        }
        int passed = 0;
        while (passed < RUN_BOUND) {
            if (steps == 0) {
                if (passed >= n || passed > 0 && isAtStop()) {
                    break;
                }
                beginNext();
            }
            timerTurn();
            copyingTurn();
            videoTurn();
            processorTurn();
            passed++;
            if (steps == 0) {
                endThis();
            }
        }
        counted[CYCLES] += passed;
        return passed;
    }

    public int stop(int pc) {
        int before = stopAt;
        stopAt = pc >= 0 && pc <= 255 ? pc : -1;
        return before;
    }

    public int keys(int down) {
        int before = state[KEYS];
        int padBefore = padReading();
        state[KEYS] = down & 255;
        noticeKeys(padBefore);
        return before;
    }

    public int cell(int a) {
        return a < 0 || a >= CELLS ? -1 : reading(a);
    }

    public int cpu(int what) {
        switch (what) {
            case 0:
                return state[A];
            case 1:
                return state[B];
            case 2:
                return state[P];
            case 3:
                return state[S];
            case 4:
                return state[PC];
            case 5:
                return state[Z] + 2 * state[K];
            case 6:
                return state[IME] == 1 ? 1 : 2 * state[EI_DUE];
            case 7:
                return state[HALTED];
            default:
                return -1;
        }
    }

    public int timer(int what) {
        switch (what) {
            case 0:
                return state[DIVIDER];
            case 1:
                return state[RELOAD_DUE];
            case 2:
                if (state[COPY_LEFT] > 0) {
                    return state[COPY_LEFT];
                }
                return state[COPY_DELAY] > 0 ? COPY_CELLS : 0;
            default:
                return -1;
        }
    }

    public int video(int what) {
        switch (what) {
            case 0:
                return state[DOTS] - 1;
            case 1:
                return state[MODE];
            case 2:
                return state[X];
            case 3:
                return state[TAKEN];
            case 4:
                return state[WINDOW_LINES];
            default:
                return -1;
        }
    }

    public int pixel(int x, int y) {
        if (x < 0 || x >= WIDTH || y < 0 || y >= HEIGHT) {
            return -1;
        }
        return state[SHOWN + WIDTH * y + x];
    }

    public long picture() {
        long number = 0;
        for (int i = 0; i < PIXELS; i++) {
            number = 31 * number + state[SHOWN + i];
        }
        return number;
    }

    public int count(int what) {
        return what < 0 || what >= COUNTS ? -1 : counted[what];
    }

    public boolean save(int slot) {
        if (slot < 0 || slot >= SLOTS) {
            return false;
        }
        for (int i = 0; i < STATE_SIZE; i++) {
            saved[STATE_SIZE * slot + i] = state[i];
        }
        isSaved[slot] = true;
        return true;
    }

    public boolean load(int slot) {
        if (slot < 0 || slot >= SLOTS || !isSaved[slot]) {
            return false;
        }
        for (int i = 0; i < STATE_SIZE; i++) {
            state[i] = saved[STATE_SIZE * slot + i];
        }
        return true;
    }

    // ---- the processor

    private int pending() {
        return state[IF] & state[IE] & 31;
    }

    private boolean isInterruptNext() {
        return state[IME] == 1 && pending() != 0;
    }

    private boolean isAtStop() {
        return state[PC] == stopAt && state[HALTED] != WAITS && !isInterruptNext();
    }

    private void beginNext() {
        if (state[HALTED] == WAITS) {
            doing = WAITING;
            steps = NOTHING;
        } else if (isInterruptNext()) {
            state[IME] = 0;
            doing = INTERRUPT;
            steps = NOTHING | PUSH << 4 | NOTHING << 8;
        } else {
            doing = 0;
            steps = READ_FIRST;
        }
    }

    private void processorTurn() {
        int step = steps & 15;
        steps = steps >> 4;
        switch (step) {
            case READ_FIRST:
                readFirst();
                break;
            case READ_NEXT:
                data = read(state[PC]);
                state[PC] = state[PC] + 1 & 255;
                break;
            case PULL:
                data = read(state[S]);
                state[S] = state[S] + 1 & 255;
                break;
            case PUSH:
                state[S] = state[S] - 1 & 255;
                write(state[S], doing == 6 ? state[A] : state[PC]);
                break;
            case READ_AT_P:
                data = read(state[P]);
                break;
            case WRITE_AT_P:
                writeAtP();
                break;
            case READ_AT_N:
                data = read(data);
                break;
            case WRITE_AT_N:
                write(data, state[A]);
                break;
            default:
                break;
        }
    }

    private void readFirst() {
        int first = read(state[PC]);
        if (state[HALTED] == STUCK_PC) {
            state[HALTED] = 0;
        } else {
            state[PC] = state[PC] + 1 & 255;
        }
        doing = first & 63;
        steps = doing < 16 ? plainSteps() : stepsWithR();
    }

    private int plainSteps() {
        switch (doing) {
            case 4:
            case 5:
                return PULL | NOTHING << 4;
            case 6:
                return NOTHING | PUSH << 4;
            case 7:
                return PULL;
            case 8:
            case 9:
            case 10:
            case 11:
                return doesJump() ? READ_NEXT | NOTHING << 4 : READ_NEXT;
            case 12:
                return READ_NEXT | NOTHING << 4 | PUSH << 8;
            case 13:
                return READ_NEXT | READ_AT_N << 4;
            case 14:
                return READ_NEXT | WRITE_AT_N << 4;
            case 15:
                return READ_NEXT;
            default:
                return 0;
        }
    }

    private int stepsWithR() {
        int k = (doing - 16) / 4;
        if (doing % 4 != 3) {
            return k == 0 ? READ_NEXT : 0;
        }
        if (k == 0) {
            return READ_NEXT | WRITE_AT_P << 4;
        }
        if (k == 2) {
            return WRITE_AT_P;
        }
        return isChange(k) ? READ_AT_P | WRITE_AT_P << 4 : READ_AT_P;
    }

    private boolean isChange(int k) {
        return k >= 8 && k <= 10;
    }

    private boolean doesJump() {
        switch (doing) {
            case 9:
                return state[Z] == 1;
            case 10:
                return state[Z] == 0;
            case 11:
                return state[K] == 1;
            default:
                return true;
        }
    }

    private void writeAtP() {
        int k = (doing - 16) / 4;
        int value = data;
        if (k == 2) {
            value = state[A];
        } else if (isChange(k)) {
            value = changed(k, data);
        }
        write(state[P], value);
    }

    private void endThis() {
        if (doing == WAITING) {
            if (pending() != 0) {
                state[HALTED] = 0;
            }
        } else if (doing == INTERRUPT) {
            endInterrupt();
        } else {
            endInstruction();
        }
    }

    private void endInterrupt() {
        int waiting = pending();
        counted[INTERRUPTS]++;
        state[PC] = 0;
        for (int k = 0; k < 5; k++) {
            if ((waiting >> k & 1) == 1) {
                state[IF] &= ~(1 << k);
                state[PC] = 8 + 8 * k;
                break;
            }
        }
        if (state[PC] == 0) {
            counted[INTERRUPTS_TO_0]++;
        }
    }

    private void endInstruction() {
        counted[INSTRUCTIONS]++;
        // The EI of the instruction before works now, ahead of what this one does to IME: 2 undoes it, HALT sees it.
        if (state[EI_DUE] == 1) {
            state[EI_DUE] = 0;
            state[IME] = 1;
        }
        if (doing < 16) {
            endPlain();
        } else {
            endWithR();
        }
    }

    private void endPlain() {
        switch (doing) {
            case 1:
                halt();
                break;
            case 2:
                state[IME] = 0;
                break;
            case 3:
                state[EI_DUE] = 1;
                break;
            case 5:
                state[PC] = data;
                state[IME] = 1;
                break;
            case 4:
            case 12:
                state[PC] = data;
                break;
            case 7:
            case 13:
                state[A] = data;
                break;
            case 8:
            case 9:
            case 10:
            case 11:
                if (doesJump()) {
                    state[PC] = data;
                }
                break;
            case 15:
                state[S] = data;
                break;
            default:
                break;
        }
    }

    private void halt() {
        if (pending() == 0) {
            state[HALTED] = WAITS;
        } else if (state[IME] == 0) {
            state[HALTED] = STUCK_PC;
        }
    }

    private void endWithR() {
        int k = (doing - 16) / 4;
        int r = doing % 4;
        int value = r == 3 ? data : state[A + r];
        if (k == 1) {
            state[A] = value;
        } else if (k == 0 || k == 2 || isChange(k)) {
            // The cell at P was written in a cycle of its own.
            if (r != 3) {
                state[A + r] = k == 0 ? data : k == 2 ? state[A] : changed(k, value);
            }
        } else {
            calculate(k, value);
        }
    }

    private int changed(int k, int value) {
        int result = value;
        if (k == 8) {
            result = value + 1 & 255;
        } else if (k == 9) {
            result = value - 1 & 255;
        } else {
            result = value >> 1 | state[K] << 7;
            state[K] = value & 1;
        }
        state[Z] = result == 0 ? 1 : 0;
        return result;
    }

    private void calculate(int k, int value) {
        int a = state[A];
        int result = 0;
        switch (k) {
            case 3:
                result = a + value;
                break;
            case 4:
            case 7:
                result = a - value;
                break;
            case 5:
                result = a & value;
                break;
            case 6:
                result = a ^ value;
                break;
            default:
                result = a + value + state[K];
                break;
        }
        state[K] = result < 0 || result > 255 ? 1 : 0;
        result = result & 255;
        state[Z] = result == 0 ? 1 : 0;
        if (k != 7) {
            state[A] = result;
        }
    }

    // ---- cells and registers, as the processor has them

    private boolean isShut(int a) {
        if (copiedNow && a < SPRITES_END) {
            return true;
        }
        int mode = state[MODE];
        if (a >= TILES && a < SPRITES) {
            return mode == 3;
        }
        return a >= SPRITES && a < SPRITES_END && mode >= 2;
    }

    private int read(int a) {
        return isShut(a) ? 255 : reading(a);
    }

    private int reading(int a) {
        switch (a) {
            case PAD:
                return padReading();
            case DIV:
                return state[DIVIDER] / 4;
            case STAT:
                int same = isOn(VIDEO_ON) && state[LY] == state[LYC] ? 4 : 0;
                return state[STAT] | same | state[MODE];
            default:
                return state[a];
        }
    }

    private void write(int a, int v) {
        if (isShut(a)) {
            return;
        }
        if (a < REGISTERS) {
            state[a] = v;
            return;
        }
        boolean signalBefore = signal();
        int padBefore = padReading();
        writeRegister(a, v);
        noticeSignal(signalBefore);
        noticeKeys(padBefore);
        lookAtLine();
    }

    private void writeRegister(int a, int v) {
        switch (a) {
            case DIV:
                state[DIVIDER] = 0;
                break;
            case TIMA:
                if (!reloadNow) {
                    state[TIMA] = v;
                    state[RELOAD_DUE] = 0;
                }
                break;
            case TMA:
                state[TMA] = v;
                if (reloadNow) {
                    state[TIMA] = v;
                }
                break;
            case IF:
                state[IF] = v & 31;
                break;
            case LCDC:
                if (((state[LCDC] ^ v) & VIDEO_ON) != 0) {
                    restVideo();
                }
                state[LCDC] = v;
                break;
            case STAT:
                state[STAT] = v & 120;
                break;
            case LY:
                break;
            case DMA:
                state[DMA] = v;
                state[COPY_DELAY] = 2;
                break;
            default:
                state[a] = v;
                break;
        }
    }

    // ---- keys

    private int padReading() {
        int down = 0;
        if ((state[PAD] & 16) == 0) {
            down |= state[KEYS] & 15;
        }
        if ((state[PAD] & 32) == 0) {
            down |= state[KEYS] >> 4;
        }
        return state[PAD] & 48 | ~down & 15;
    }

    private void noticeKeys(int padBefore) {
        if ((padBefore & ~padReading() & 15) != 0) {
            state[IF] |= KEY_BIT;
        }
    }

    // ---- the timer

    private boolean signal() {
        int choice = state[TAC] & 3;
        int bit = choice == 0 ? 5 : choice;
        return (state[TAC] & 4) != 0 && (state[DIVIDER] >> bit & 1) == 1;
    }

    private void noticeSignal(boolean before) {
        if (!before || signal()) {
            return;
        }
        if (state[TIMA] == 255) {
            state[TIMA] = 0;
            state[RELOAD_DUE] = 1;
        } else {
            state[TIMA]++;
        }
    }

    private void timerTurn() {
        reloadNow = state[RELOAD_DUE] == 1;
        if (reloadNow) {
            state[RELOAD_DUE] = 0;
            state[TIMA] = state[TMA];
            state[IF] |= TIMER_BIT;
        }
        boolean before = signal();
        state[DIVIDER] = state[DIVIDER] + 1 & 1023;
        noticeSignal(before);
    }

    // ---- copying

    private void copyingTurn() {
        if (state[COPY_DELAY] > 0) {
            state[COPY_DELAY]--;
            if (state[COPY_DELAY] == 0) {
                state[COPY_FROM] = 16 * (state[DMA] & 15);
                state[COPY_LEFT] = COPY_CELLS;
            }
        }
        copiedNow = state[COPY_LEFT] > 0;
        if (copiedNow) {
            int k = COPY_CELLS - state[COPY_LEFT];
            int from = state[COPY_FROM] + k;
            state[SPRITES + k] = from < REGISTERS ? state[from] : 255;
            state[COPY_LEFT]--;
            counted[COPIED]++;
        }
    }

    // ---- the video

    private boolean isOn(int bit) {
        return (state[LCDC] & bit) != 0;
    }

    private void restVideo() {
        for (int i = DOTS; i < VIDEO_END; i++) {
            state[i] = 0;
        }
        state[LY] = 0;
    }

    private void lookAtLine() {
        int mode = state[MODE];
        boolean byMode = mode < 3 && (state[STAT] >> (3 + mode) & 1) == 1;
        boolean byLine = state[LY] == state[LYC] && (state[STAT] & 64) != 0;
        int line = isOn(VIDEO_ON) && (byMode || byLine) ? 1 : 0;
        if (line > state[LINE]) {
            state[IF] |= LINE_BIT;
        }
        state[LINE] = line;
    }

    private void videoTurn() {
        if (!isOn(VIDEO_ON)) {
            return;
        }
        if (state[DOTS] == DOTS_IN_LINE) {
            state[DOTS] = 0;
            state[LY] = (state[LY] + 1) % LINES;
        }
        int dot = state[DOTS];
        state[DOTS]++;
        if (dot == 0) {
            beginLine();
        }
        if (state[MODE] == 2 && dot < 4) {
            lookAtSprite(dot);
        } else if (state[MODE] == 2) {
            beginDrawing();
            drawingDot();
        } else if (state[MODE] == 3 && state[X] < WIDTH) {
            drawingDot();
        } else if (state[MODE] == 3) {
            state[MODE] = 0;
            state[X] = 0;
        }
        lookAtLine();
    }

    private void beginLine() {
        state[MODE] = state[LY] < HEIGHT ? 2 : 1;
        state[TAKEN] = 0;
        state[WINDOW_HERE] = 0;
        if (state[LY] == 0) {
            state[WINDOW_LINES] = 0;
        }
        if (state[LY] == HEIGHT) {
            showPicture();
        }
    }

    private void showPicture() {
        for (int i = 0; i < PIXELS; i++) {
            state[SHOWN + i] = state[DRAWN + i];
        }
        state[IF] |= PICTURE_BIT;
        counted[PICTURES]++;
    }

    private void lookAtSprite(int sprite) {
        int at = SPRITES + 4 * sprite;
        int row = state[LY] - state[at];
        int place = state[TAKEN];
        if (row < 0 || row > 3 || place >= MOST_TAKEN || copiedNow) {
            return;
        }
        state[TAKEN_SPRITE + place] = sprite;
        state[TAKEN_ROW + place] = row;
        state[TAKEN_X + place] = state[at + 1];
        state[FETCHED + place] = 0;
        state[TAKEN]++;
    }

    private void beginDrawing() {
        state[MODE] = 3;
        state[X] = 0;
        state[DROP] = state[SCX] & 3;
        state[PAUSE] = 0;
        state[STRIP_LEFT] = 0;
        state[STRIP_NEXT] = 0;
    }

    private void drawingDot() {
        if (state[PAUSE] == 1) {
            state[PAUSE] = 0;
            return;
        }
        if (doesWindowBegin()) {
            beginWindow();
            state[PAUSE] = 1;
            return;
        }
        int place = placeToFetch();
        if (place >= 0) {
            fetchSprite(place);
            state[PAUSE] = 1;
            return;
        }
        if (state[STRIP_LEFT] == 0) {
            fetchStrip();
        }
        state[STRIP_LEFT]--;
        int stripPixel = state[STRIP] >> (2 * state[STRIP_LEFT]) & 3;
        if (state[DROP] > 0) {
            state[DROP]--;
        } else {
            drawPixel(stripPixel);
        }
    }

    private boolean doesWindowBegin() {
        return isOn(WINDOW_ON) && state[LY] >= state[WY] && state[X] == state[WX] && state[WINDOW_HERE] == 0;
    }

    private void beginWindow() {
        state[WINDOW_HERE] = 1;
        state[WINDOW_LINES]++;
        state[STRIP_LEFT] = 0;
        state[STRIP_NEXT] = 0;
        state[DROP] = 0;
    }

    private int placeToFetch() {
        if (!isOn(SPRITES_ON)) {
            return -1;
        }
        // Sprites are TAKEN in their order, so the first place that fits has the least of them.
        for (int place = 0; place < MOST_TAKEN; place++) {
            if (place < state[TAKEN] && state[FETCHED + place] == 0 && state[TAKEN_X + place] == state[X]) {
                return place;
            }
        }
        return -1;
    }

    private void fetchSprite(int place) {
        int at = SPRITES + 4 * state[TAKEN_SPRITE + place];
        int look = state[at + 3];
        int row = state[TAKEN_ROW + place];
        if ((look & 2) != 0) {
            row = 3 - row;
        }
        int bits = state[TILES + 4 * (state[at + 2] & 7) + row];
        if ((look & 1) != 0) {
            bits = (bits & 3) << 6 | (bits & 12) << 2 | bits >> 2 & 12 | bits >> 6;
        }
        state[FETCHED + place] = 1;
        state[FETCHED_PIXELS + place] = bits;
        state[FETCHED_LOOK + place] = look;
    }

    private void fetchStrip() {
        int k = state[STRIP_NEXT];
        int v = state[LY] + state[SCY];
        int at = MAP + (state[SCX] / 4 + k) % 4;
        if (state[WINDOW_HERE] == 1) {
            // The count has this line in it already.
            v = state[WINDOW_LINES] - 1;
            at = WINDOW_MAP + k % 4;
        }
        int tile = state[at + 4 * (v / 4 % 4)] & 7;
        state[STRIP] = state[TILES + 4 * tile + v % 4];
        state[STRIP_LEFT] = 4;
        state[STRIP_NEXT]++;
    }

    private void drawPixel(int stripPixel) {
        int x = state[X];
        int colour = isOn(BACKGROUND_ON) ? stripPixel : 0;
        int place = isOn(SPRITES_ON) ? frontPlace(x) : -1;
        if (place >= 0 && (colour == 0 || (state[FETCHED_LOOK + place] & 4) == 0)) {
            colour = 4 + spritePixel(place, x);
        }
        state[DRAWN + WIDTH * state[LY] + x] = colour;
        state[X]++;
        counted[DRAWN_PIXELS]++;
    }

    private int frontPlace(int x) {
        int front = -1;
        for (int place = 0; place < MOST_TAKEN; place++) {
            if (spritePixel(place, x) != 0 && (front < 0 || state[TAKEN_X + place] < state[TAKEN_X + front])) {
                front = place;
            }
        }
        return front;
    }

    // 0, which is not seen, where the sprite is not, too.
    private int spritePixel(int place, int x) {
        int column = x - state[TAKEN_X + place];
        if (place >= state[TAKEN] || state[FETCHED + place] == 0 || column < 0 || column > 3) {
            return 0;
        }
        return state[FETCHED_PIXELS + place] >> (6 - 2 * column) & 3;
    }
}
