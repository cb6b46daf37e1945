/** Long runs of calls, made by a fixed rule, on WideStack and on the model: every answer must be the same. */
public final class ModelTest {
    private static final int OBJECTS = 20000;
    private static final int MOST_CALLS = 512;
    private static final int CALLS_TO_PLAY = 300;
    private static final int[] COMPUTING = {
        1, 2, 3, 4, 5, 6, 7, 8, 9, 0x0B, 0x10, 0x11, 0x12, 0x13, 0x14, 0x15, 0x16, 0x17, 0x18, 0x19, 0x1A, 0x1B, 0x1C,
        0x1D
    };
    private static final int[] PARTS = {
        0, 0, 0, 0, 1, 2, 7, 8, 30, 31, 32, 33, 96, 127, 128, 129, 159, 160, 161, 255, 256, -1, -1, -2, -3,
        Integer.MIN_VALUE, Integer.MAX_VALUE, 0x5B5B5B5B
    };

    private static final Check CHECK = new Check("ModelTest");
    private static final int[] ENDINGS_SEEN = new int[9];
    private static final int[] REASONS_SEEN = new int[6];
    private static long seed = 20261115;

    private final WideStack x = new WideStack();
    private final Model y = new Model();
    private int calls = 0;

    public static void main(String[] args) {
        for (int i = 0; i < OBJECTS; i++) {
            new ModelTest().play(i % 3);
        }
        // Otherwise the calls would not test what they are meant to.
        for (int how = 1; how < ENDINGS_SEEN.length; how++) {
            CHECK.due("ending " + how + " was seen", ENDINGS_SEEN[how] > 100, true);
        }
        for (int reason = 0; reason < REASONS_SEEN.length; reason++) {
            CHECK.due("reason " + reason + " was seen", REASONS_SEEN[reason] > 100, true);
        }
        CHECK.finish();
    }

    /** A number from 0 to limit - 1; the same ones in each run of the test. */
    private static int pick(int limit) {
        seed = seed * 6364136223846793005L + 1442695040888963407L;
        return (int) ((seed >>> 33) % limit);
    }

    private static int pick(int[] row) {
        return row[pick(row.length)];
    }

    private static int anyPart() {
        return pick(3) == 0 ? pick(Integer.MAX_VALUE) * 2 + pick(2) : pick(PARTS);
    }

    private void play(int kind) {
        while (calls < CALLS_TO_PLAY) {
            addCode(kind);
            int judged = y.analyse();
            REASONS_SEEN[judged % 8]++;
            same("analyse()", x.analyse(), judged);
            int gas = pick(4) == 0 ? pick(60) : pick(10100) - 50;
            same("start(" + gas + ")", x.start(gas), y.start(gas));
            for (int i = pick(8); i > 0 && calls < CALLS_TO_PLAY; i--) {
                callOne();
                compareRun();
            }
            ENDINGS_SEEN[Math.max(0, y.ended())]++;
            if (pick(3) == 0) {
                compareSome();
                x.clear();
                y.clear();
                calls++;
            }
        }
        while (calls < MOST_CALLS - 20) {
            compareSome();
        }
    }

    private void addCode(int kind) {
        int count = pick(pick(3) == 0 ? 100 : 30);
        if (kind == 2) {
            new Writer().write(count);
            return;
        }
        for (int i = 0; i < count; i++) {
            append(kind == 0 ? pick(258) - 1 : someByte());
        }
    }

    private void append(int b) {
        same("code(" + b + ")", x.code(b), y.code(b));
    }

    /** Writes code that minds the height of the stack and mostly jumps to marks. */
    private final class Writer {
        private final int pushes = 2 + pick(6);
        private final int[] marks = new int[100];
        private int markCount = 0;
        private int length = 0;
        private int height = 0;

        void write(int count) {
            while (length < count) {
                int kind = pick(10 + pushes);
                if (kind >= 10 || height < 2) {
                    number(pick(4) == 0 ? pick(256) : pick(40), pick(5) == 0 ? pick(4) : 0);
                } else if (kind < 3) {
                    int op = pick(COMPUTING);
                    boolean one = op == 0x15 || op == 0x19;
                    put(op, one ? 0 : (op == 8 || op == 9) ? -2 : -1);
                } else if (kind == 3) {
                    number(pick(150), 0);
                    int op = 0x51 + pick(3);
                    put(op, op == 0x51 ? 0 : -2);
                } else if (kind == 4) {
                    boolean again = pick(2) == 0;
                    put((again ? 0x80 : 0x8F) + pick(Math.min(16, height)), again ? 1 : 0);
                } else if (kind == 5) {
                    marks[markCount++] = length;
                    put(0x5B, 0);
                } else if (kind < 8) {
                    jump();
                } else if (kind == 8) {
                    put(0x58 + pick(3), 1);
                } else {
                    rarely();
                }
            }
        }

        private void rarely() {
            if (pick(4) != 0) {
                put(0x50, -1);
            } else if (pick(3) != 0) {
                number(pick(40), 0);
                number(pick(130), 0);
                put(0xF3, -2);
            } else {
                put(pick(256), 0);
            }
        }

        private void jump() {
            boolean back = markCount > 0 && pick(2) == 0;
            int gap = pick(3);
            number(back ? marks[pick(markCount)] : length + 3 + gap, 0);
            put(0x56 + (pick(3) == 0 ? 0 : 1), -1);
            if (!back) {
                for (int i = 0; i < gap; i++) {
                    put(pick(4) == 0 ? 0x15 : 0x5B, 0);
                }
                put(0x5B, 0);
            }
        }

        private void number(int value, int more) {
            put(0x60 + more, 1);
            for (int i = 0; i < more; i++) {
                put(pick(2) * pick(256), 0);
            }
            put(value, 0);
        }

        private void put(int b, int change) {
            append(b);
            length++;
            height = Math.max(0, height + change);
        }
    }

    /** A byte that is likely to keep a run going. */
    private static int someByte() {
        switch (pick(12)) {
            case 0: case 1: return pick(COMPUTING);
            case 2: return 0x50 + pick(12);
            case 3: return 0x5B;
            case 4: case 5: return 0x60;
            case 6: return 0x60 + pick(6);
            case 7: return 0x80 + pick(5);
            case 8: return 0x90 + pick(5);
            case 9: return 0x56 + pick(2);
            case 10: return pick(100);
            default: return pick(12) == 0 ? 0xF3 : pick(16) == 0 ? pick(256) : pick(33);
        }
    }

    private void callOne() {
        int a = anyPart();
        int b = pick(2) == 0 ? 0 : anyPart();
        int c = pick(2) == 0 ? 0 : anyPart();
        int d = anyPart();
        switch (pick(8)) {
            case 0: case 1: case 2:
                same("push", x.push(b, b, c, d), y.push(b, b, c, d));
                break;
            case 3:
                same("push", x.push(a, b, c, d), y.push(a, b, c, d));
                break;
            case 4:
                int n = pick(20) == 0 ? a : pick(520) - 5;
                same("run(" + n + ")", x.run(n), y.run(n));
                break;
            default:
                int few = 1 + pick(6);
                same("run(" + few + ")", x.run(few), y.run(few));
                break;
        }
    }

    private void compareRun() {
        same("ended()", x.ended(), y.ended());
        same("height()", x.height(), y.height());
        for (int what = 0; what < 4; what++) {
            same("state(" + what + ")", x.state(what), y.state(what));
        }
        for (int p = 0; p < 8; p++) {
            same("part(0, " + p + ")", x.part(0, p), y.part(0, p));
        }
    }

    private void compareSome() {
        int what = pick(20) == 0 ? anyPart() : pick(6) - 1;
        same("state(" + what + ")", x.state(what), y.state(what));
        int k = pick(20) == 0 ? anyPart() : pick(18) - 1;
        int p = pick(20) == 0 ? anyPart() : pick(10) - 1;
        same("part(" + k + ", " + p + ")", x.part(k, p), y.part(k, p));
        int at = pick(20) == 0 ? anyPart() : pick(162) - 1;
        same("memory(" + at + ", false)", x.memory(at, false), y.memory(at, false));
        same("memory(" + at + ", true)", x.memory(at, true), y.memory(at, true));
        for (int i = 0; i < 4; i++) {
            int place = pick(20) == 0 ? anyPart() : pick(i < 2 ? 130 : 30) - 1;
            same("reached(" + place + ")", x.reached(place), y.reached(place));
            same("marked(" + place + ")", x.marked(place), y.marked(place));
        }
    }

    private void same(String call, Object got, Object want) {
        calls++;
        CHECK.due(call, got, want);
    }
}
