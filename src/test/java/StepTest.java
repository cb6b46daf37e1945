/** What a step does, what it costs, and how it ends a run. */
public final class StepTest {
    private static final Check CHECK = new Check("StepTest");
    private static final int[] ZERO = {0, 0, 0, 0};
    private static final int[] HUGE = {-1, -1, -1, -1};
    /** 2^32 and 2^224: their lowest parts are 0. */
    private static final int[] HIGH = {0, 0, 1, 0};
    private static final int[] TOP = {1, 0, 0, 0};

    public static void main(String[] args) {
        everyByte();
        numbers();
        numbersBehindTheEnd();
        repeatsAndExchanges();
        loadAndSave();
        memoryGrows();
        jumps();
        jumpsThatFail();
        placeSizeAndGas();
        returns();
        returnsOfNothing();
        beyondMemory();
        tooLittleGas();
        firstOfTheEndings();
        endingsChangeNothing();
        CHECK.finish();
    }

    private static WideStack started(int gas, int[] code, int[]... words) {
        WideStack x = Check.with(code);
        x.start(gas);
        for (int[] word : words) {
            x.push(word[0], word[1], word[2], word[3]);
        }
        return x;
    }

    private static int[] small(int value) {
        return new int[] {0, 0, 0, value};
    }

    private static void ends(String call, WideStack x, int done, int how) {
        CHECK.due(call + ": steps", x.run(500), done);
        CHECK.due(call + ": ended", x.ended(), how);
    }

    /** The cost of a byte, -1 when it is undefined, as the document lists them. */
    private static int listedCost(int op) {
        if (op == 0x00 || op == 0xF3) {
            return 0;
        }
        if (op == 0x5B) {
            return 1;
        }
        if (op == 0x50 || op == 0x58 || op == 0x59 || op == 0x5A) {
            return 2;
        }
        if (op == 0x02 || op >= 0x04 && op <= 0x07 || op == 0x0B) {
            return 5;
        }
        if (op == 0x08 || op == 0x09 || op == 0x56) {
            return 8;
        }
        if (op == 0x57) {
            return 10;
        }
        boolean three = op <= 0x03 || op >= 0x10 && op <= 0x1D || op >= 0x51 && op <= 0x53 || op >= 0x60 && op <= 0x9F;
        return three ? 3 : -1;
    }

    /** How many words a byte must find, as the document tells. */
    private static int listedNeed(int op) {
        if (op >= 0x80 && op <= 0x9F) {
            return op < 0x90 ? op - 0x80 + 1 : op - 0x90 + 2;
        }
        switch (op) {
            case 0x00: case 0x58: case 0x59: case 0x5A: case 0x5B:
                return 0;
            case 0x15: case 0x19: case 0x50: case 0x51: case 0x56:
                return 1;
            case 0x08: case 0x09:
                return 3;
            default:
                return op >= 0x60 && op < 0x80 ? 0 : 2;
        }
    }

    /** How the height changes. */
    private static int listedChange(int op) {
        if (op >= 0x58 && op <= 0x5A || op >= 0x60 && op < 0x90) {
            return 1;
        }
        if (op >= 0x90 && op < 0xA0 || op == 0x51) {
            return 0;
        }
        boolean gives = op > 0 && op < 0x20;
        return (gives ? 1 : 0) - listedNeed(op);
    }

    private static void everyByte() {
        for (int op = 0; op < 256; op++) {
            int cost = listedCost(op);
            for (int height = 0; height <= 16; height++) {
                WideStack x = withHeight(op, height);
                String call = "byte " + Integer.toHexString(op) + " at height " + height;
                if (cost < 0) {
                    ends(call, x, 0, 7);
                } else if (height < listedNeed(op)) {
                    ends(call, x, 0, 5);
                } else if (height + listedChange(op) > 16) {
                    ends(call, x, 0, 6);
                } else {
                    paysItsCost(call, x, op, cost);
                }
            }
        }
    }

    /** A run at the byte given, with words 0 on its stack; 0 is a mark, so that jumps there are good. */
    private static WideStack withHeight(int op, int height) {
        WideStack x = Check.with(0x5B, op);
        x.start(1001);
        x.run(1);
        for (int i = 0; i < height; i++) {
            x.push(0, 0, 0, 0);
        }
        return x;
    }

    private static void paysItsCost(String call, WideStack x, int op, int cost) {
        int height = x.height();
        boolean last = op == 0 || op == 0xF3;
        CHECK.due(call + ": run", x.run(1), last ? 0 : 1);
        CHECK.due(call + ": ended", x.ended(), op == 0 ? 1 : op == 0xF3 ? 2 : 0);
        int grown = op == 0x51 || op == 0x52 || op == 0x53 ? 3 : 0;
        CHECK.due(call + ": gas", x.state(0), 1000 - cost - grown);
        CHECK.due(call + ": height", x.height(), height + listedChange(op));
        int behind = op >= 0x60 && op < 0x80 ? 2 + op - 0x5F : 2;
        CHECK.due(call + ": counter", x.state(1), last ? 1 : op == 0x56 ? 0 : behind);
        CHECK.due(call + ": size", x.state(2), grown == 0 ? 0 : 32);
    }

    private static void numbers() {
        WideStack x = started(100, new int[] {0x60, 0xFF, 0x62, 1, 2, 3, 0x63, 0x80, 0, 0, 9, 0x64, 5, 0, 0, 0, 7});
        CHECK.due("run", x.run(4), 4);
        CHECK.due("60h", x.part(3, 0), 0xFF);
        CHECK.due("62h", x.part(2, 0), 0x010203);
        CHECK.due("63h", x.part(1, 0), 0x80000009);
        CHECK.due("64h", Check.word(x, 0), String.format("%064x", 0x500000007L));
        CHECK.due("counter", x.state(1), 17);
        int[] all = new int[33];
        StringBuilder due = new StringBuilder();
        all[0] = 0x7F;
        for (int i = 1; i < 33; i++) {
            all[i] = 0xF0 - i;
            due.append(String.format("%02x", all[i]));
        }
        WideStack y = started(3, all);
        y.run(1);
        CHECK.due("7Fh", Check.word(y, 0), due.toString());
        CHECK.due("gas", y.state(0), 0);
    }

    private static void numbersBehindTheEnd() {
        WideStack x = started(100, new int[] {0x62, 0x11});
        ends("62h at the end", x, 1, 1);
        CHECK.due("number", x.part(0, 0), 0x110000);
        CHECK.due("counter", x.state(1), 4);
        WideStack y = started(200, Check.join(Check.times(95, 0x5B), new int[] {0x7F}));
        ends("7Fh as the last byte", y, 96, 1);
        CHECK.due("number", Check.word(y, 0), "0".repeat(64));
        CHECK.due("counter", y.state(1), 128);
    }

    private static void repeatsAndExchanges() {
        for (int k = 0; k < 16; k++) {
            WideStack x = started(3, new int[] {0x80 + k});
            for (int i = 15 - (k < 15 ? 1 : 0); i >= 0; i--) {
                x.push(i, i + 1, i + 2, i + 3);
            }
            if (k == 15) {
                ends("8Fh on a full stack", x, 0, 6);
                continue;
            }
            CHECK.due("repeat " + k, x.run(1), 1);
            CHECK.due("height", x.height(), 16);
            CHECK.due("topmost", Check.word(x, 0), Check.word(x, k + 1));
            CHECK.due("part 7", x.part(0, 7), k);
            CHECK.due("the former topmost", x.part(1, 7), 0);
        }
        for (int k = 1; k < 16; k++) {
            WideStack x = started(3, new int[] {0x8F + k});
            for (int i = 15; i >= 0; i--) {
                x.push(i, i + 1, i + 2, i + 3);
            }
            CHECK.due("exchange " + k, x.run(1), 1);
            for (int i = 0; i < 16; i++) {
                int due = i == 0 ? k : i == k ? 0 : i;
                CHECK.due("part 7 of " + i, x.part(i, 7), due);
                CHECK.due("part 3 of " + i, x.part(i, 3), due + 1);
                CHECK.due("part 0 of " + i, x.part(i, 0), due + 3);
            }
        }
    }

    private static void loadAndSave() {
        int[] word = {0x11223344, 0x55667788, 0x99AABBCC, 0xDDEEFF01};
        WideStack x = started(500, new int[] {0x52, 0x60, 6, 0x51, 0x60, 4, 0x51}, word, small(5));
        CHECK.due("run", x.run(1), 1);
        CHECK.due("before it", x.memory(4, false), 0);
        CHECK.due("first", x.memory(5, false), 0x11);
        CHECK.due("fifth", x.memory(9, false), 0x55);
        CHECK.due("last", x.memory(36, false), 0x01);
        CHECK.due("behind it", x.memory(37, false), 0);
        CHECK.due("size", x.state(2), 64);
        x.run(4);
        CHECK.due("from one byte later", Check.word(x, 1), "223344" + "55667788".repeat(5) + "99aabbccddeeff0100");
        CHECK.due("from one byte earlier, part 7", x.part(0, 7), 0x00112233);
        CHECK.due("from one byte earlier, part 0", x.part(0, 0), 0xCCDDEEFF);
        // 53h puts the lowest byte alone, and leaves the others.
        WideStack y = started(500, new int[] {0x52, 0x61, 0x12, 0x34, 0x60, 1, 0x53}, HUGE, ZERO);
        y.run(4);
        CHECK.due("byte 0", y.memory(0, false), 255);
        CHECK.due("byte 1", y.memory(1, false), 0x34);
        CHECK.due("byte 2", y.memory(2, false), 255);
        // A later word lies over an earlier one.
        WideStack z = started(500, new int[] {0x52, 0x60, 0, 0x60, 16, 0x52}, HUGE, ZERO);
        z.run(4);
        CHECK.due("byte 15", z.memory(15, false), 255);
        CHECK.due("byte 16", z.memory(16, false), 0);
        CHECK.due("byte 47", z.memory(47, false), 0);
        // What stands before and behind a word is left alone.
        WideStack v = started(500, new int[] {0x52, 0x60, 128, 0x52, 0x60, 64, 0x52}, ZERO, HUGE, HUGE, ZERO);
        v.run(5);
        CHECK.due("behind the first word", v.memory(32, false), 0);
        CHECK.due("before the last word", v.memory(127, false), 0);
        CHECK.due("the last word", v.memory(128, false), 255);
        WideStack w = started(500, new int[] {0x52, 0x60, 0, 0x60, 0, 0x52, 0x60, 0, 0x60, 64, 0x52}, HUGE, small(32));
        w.run(7);
        CHECK.due("behind a word of 0", w.memory(32, false), 255);
        CHECK.due("before a word of 0", w.memory(63, false), 255);
    }

    private static void memoryGrows() {
        int[][] rows = {
            {0x51, 0, 32}, {0x51, 1, 64}, {0x51, 32, 64}, {0x51, 33, 96}, {0x51, 127, 160}, {0x51, 128, 160},
            {0x52, 0, 32}, {0x52, 1, 64}, {0x52, 128, 160},
            {0x53, 0, 32}, {0x53, 31, 32}, {0x53, 32, 64}, {0x53, 63, 64}, {0x53, 64, 96}, {0x53, 159, 160}
        };
        for (int[] row : rows) {
            WideStack x = started(100, new int[] {row[0], 0x60, 0, 0x51}, small(9), small(row[1]));
            String call = Integer.toHexString(row[0]) + " at " + row[1];
            CHECK.due(call, x.run(1), 1);
            CHECK.due(call + ": size", x.state(2), row[2]);
            CHECK.due(call + ": gas", x.state(0), 100 - 3 - 3 * row[2] / 32);
            x.run(2);
            CHECK.due(call + ": size stays", x.state(2), row[2]);
            CHECK.due(call + ": no more cost", x.state(0), 100 - 9 - 3 * row[2] / 32);
        }
        // From 32 on to 160: four steps more.
        WideStack y = started(100, new int[] {0x51, 0x50, 0x51}, small(128), small(0));
        y.run(3);
        CHECK.due("size", y.state(2), 160);
        CHECK.due("gas", y.state(0), 100 - 6 - 2 - 3 - 12);
    }

    private static void jumps() {
        int[] code = {0x56, 0x00, 0x5B, 0x00};
        WideStack x = started(8, code, small(2));
        CHECK.due("56h", x.run(1), 1);
        CHECK.due("counter", x.state(1), 2);
        CHECK.due("height", x.height(), 0);
        CHECK.due("gas", x.state(0), 0);
        int[] maybe = {0x57, 0x00, 0x5B, 0x00};
        for (int[] word : new int[][] {small(1), HIGH, TOP, HUGE, {Integer.MIN_VALUE, 0, 0, 0}}) {
            WideStack y = started(10, maybe, word, small(2));
            CHECK.due("57h", y.run(1), 1);
            CHECK.due("counter", y.state(1), 2);
            CHECK.due("height", y.height(), 0);
        }
        WideStack z = started(10, maybe, ZERO, small(2));
        CHECK.due("57h of 0", z.run(1), 1);
        CHECK.due("counter", z.state(1), 1);
        CHECK.due("gas", z.state(0), 0);
        WideStack none = started(10, maybe, ZERO, HUGE);
        CHECK.due("57h of 0 looks at no place", none.run(1), 1);
        CHECK.due("counter", none.state(1), 1);
    }

    private static void jumpsThatFail() {
        // The mark at 2 is a number's byte; the one at 3 is none; 4 is behind the code.
        int[] code = {0x56, 0x60, 0x5B, 0x5B};
        int[][] bad = {small(0), small(1), small(2), small(4), small(96), small(-1), HUGE, {0, 0, 1, 3}, {0, 1, 0, 3},
            {1, 0, 0, 3}, small(256 + 3), small(0x10003)};
        for (int[] word : bad) {
            WideStack x = started(100, code, word);
            ends("56h to " + Check.word(x, 0), x, 0, 3);
            CHECK.due("gas", x.state(0), 100);
            CHECK.due("height", x.height(), 1);
            CHECK.due("counter", x.state(1), 0);
            WideStack y = started(100, new int[] {0x57, 0x60, 0x5B, 0x5B}, small(1), word);
            ends("57h to " + Check.word(y, 0), y, 0, 3);
            CHECK.due("height", y.height(), 2);
        }
        ends("56h to 3", started(100, code, small(3)), 2, 1);
    }

    private static void placeSizeAndGas() {
        WideStack x = started(100, new int[] {0x5B, 0x58, 0x59, 0x5A, 0x60, 33, 0x51, 0x59, 0x5A, 0x58});
        CHECK.due("run", x.run(9), 9);
        int[] due = {9, 100 - 1 - 6 - 3 - 12 - 4, 96, 0, 100 - 1 - 6, 0, 1};
        for (int k = 0; k < due.length; k++) {
            CHECK.due("word " + k, x.part(k, 0), due[k]);
        }
        WideStack y = started(2, new int[] {0x5A});
        y.run(1);
        CHECK.due("5Ah with its last gas", y.part(0, 0), 0);
        CHECK.due("height", y.height(), 1);
    }

    private static void returns() {
        WideStack x = started(15, new int[] {0xF3}, HUGE, small(160), small(0));
        ends("RETURN of all", x, 0, 2);
        CHECK.due("size", x.state(2), 160);
        CHECK.due("gas", x.state(0), 0);
        CHECK.due("returned", x.state(3), 160);
        CHECK.due("counter", x.state(1), 0);
        CHECK.due("A and B are taken", x.height(), 1);
        CHECK.due("the word below stays", x.part(0, 0), -1);
        CHECK.due("last byte", x.memory(159, true), 0);
        CHECK.due("no byte", x.memory(160, true), -1);
        CHECK.due("run behind RETURN", x.run(5), 0);
        WideStack y = started(15, new int[] {0xF3}, small(1), small(159));
        ends("RETURN of the last byte", y, 0, 2);
        CHECK.due("returned", y.state(3), 1);
        CHECK.due("its byte", y.memory(0, true), 0);
        CHECK.due("no byte", y.memory(1, true), -1);
        ends("RETURN without gas for the memory", started(14, new int[] {0xF3}, small(1), small(159)), 0, 4);
    }

    private static void returnsOfNothing() {
        for (int[] from : new int[][] {ZERO, small(5), small(160), small(161), HIGH, TOP, HUGE}) {
            WideStack x = started(0, new int[] {0xF3}, ZERO, from);
            ends("RETURN of nothing", x, 0, 2);
            CHECK.due("size", x.state(2), 0);
            CHECK.due("returned", x.state(3), 0);
            CHECK.due("no byte", x.memory(0, true), -1);
        }
        // For 52h a word 0 is written like any other.
        WideStack y = started(5, new int[] {0x52}, ZERO, ZERO);
        ends("52h of 0 without gas for the memory", y, 0, 4);
        ends("52h of 0 beyond the memory", started(99, new int[] {0x52}, ZERO, small(129)), 0, 8);
    }

    private static void beyondMemory() {
        int[][] far = {small(161), small(1000), small(-1), small(Integer.MAX_VALUE), HIGH, TOP, HUGE};
        for (int[] word : far) {
            for (int op : new int[] {0x51, 0x52, 0x53}) {
                ends(Integer.toHexString(op) + " far", started(9999, new int[] {op}, small(1), word), 0, 8);
            }
            ends("RETURN from far", started(9999, new int[] {0xF3}, small(1), word), 0, 8);
            ends("RETURN of many", started(9999, new int[] {0xF3}, word, small(0)), 0, 8);
            ends("RETURN of many from far", started(9999, new int[] {0xF3}, word, word), 0, 8);
        }
        ends("51h at 129", started(9999, new int[] {0x51}, small(129)), 0, 8);
        ends("52h at 129", started(9999, new int[] {0x52}, small(1), small(129)), 0, 8);
        ends("53h at 160", started(9999, new int[] {0x53}, small(1), small(160)), 0, 8);
        ends("RETURN of 1 at 160", started(9999, new int[] {0xF3}, small(1), small(160)), 0, 8);
        ends("RETURN of 160 at 1", started(9999, new int[] {0xF3}, small(160), small(1)), 0, 8);
        ends("RETURN that wraps round", started(9999, new int[] {0xF3}, small(2), HUGE), 0, 8);
        ends("51h that wraps round", started(9999, new int[] {0x51}, HUGE), 0, 8);
    }

    private static void tooLittleGas() {
        int[][] rows = {{0x01, 3}, {0x02, 5}, {0x09, 8}, {0x56, 8}, {0x57, 10}, {0x50, 2}, {0x5B, 1}, {0x60, 3},
            {0x80, 3}, {0x90, 3}, {0x51, 6}, {0x52, 6}, {0x53, 6}};
        for (int[] row : rows) {
            WideStack x = started(row[1], new int[] {0x5B, row[0]}, ZERO, ZERO, ZERO);
            ends(Integer.toHexString(row[0]) + " with too little gas", x, 1, 4);
            CHECK.due("gas", x.state(0), 0);
            CHECK.due("height", x.height(), 3);
            CHECK.due("counter", x.state(1), 1);
            CHECK.due("size", x.state(2), 0);
            WideStack y = started(row[1] + 1, new int[] {0x5B, row[0]}, ZERO, ZERO, ZERO);
            CHECK.due(Integer.toHexString(row[0]) + " with just enough gas", y.run(2), 2);
            CHECK.due("gas", y.state(0), 0);
        }
        ends("STOP needs none", started(0, new int[] {0x00}), 0, 1);
    }

    private static void firstOfTheEndings() {
        ends("7 before 4", started(0, new int[] {0xFE}), 0, 7);
        ends("5 before 4", started(0, new int[] {0x01}), 0, 5);
        ends("5 before 3", started(0, new int[] {0x57}, HUGE), 0, 5);
        ends("5 before 8", started(0, new int[] {0x52}, HUGE), 0, 5);
        WideStack full = started(0, new int[] {0x60});
        for (int i = 0; i < 16; i++) {
            full.push(0, 0, 0, 0);
        }
        ends("6 before 4", full, 0, 6);
        ends("8 before 4", started(0, new int[] {0x51}, HUGE), 0, 8);
        ends("4 before 3", started(7, new int[] {0x56}, HUGE), 0, 4);
        ends("4 before 3", started(9, new int[] {0x57}, HUGE, HUGE), 0, 4);
        ends("3", started(10, new int[] {0x57}, HUGE, HUGE), 0, 3);
    }

    private static void endingsChangeNothing() {
        // An instruction, the words on the stack, and how it ends the run.
        int[][] rows = {{0xFE, 2, 7}, {0x08, 2, 5}, {0x60, 16, 6}, {0x53, 2, 8}, {0x52, 16, 8}, {0xF3, 2, 8},
            {0x56, 2, 3}, {0x57, 16, 3}};
        for (int[] row : rows) {
            WideStack x = started(50, new int[] {0x5B, 0x5B, row[0], 5});
            for (int i = 0; i < row[1]; i++) {
                x.push(-1, -1, -1, i);
            }
            ends(Integer.toHexString(row[0]), x, 2, row[2]);
            CHECK.due("gas", x.state(0), 48);
            CHECK.due("counter", x.state(1), 2);
            CHECK.due("size", x.state(2), 0);
            CHECK.due("returned", x.state(3), 0);
            CHECK.due("height", x.height(), row[1]);
            CHECK.due("topmost", x.part(0, 0), row[1] - 1);
            CHECK.due("memory", x.memory(0, false), 0);
            CHECK.due("push", x.push(0, 0, 0, 0), false);
            CHECK.due("run", x.run(1), 0);
            CHECK.due("still ended", x.ended(), row[2]);
        }
    }
}
