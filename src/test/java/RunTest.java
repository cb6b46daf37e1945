/** Promises 4 to 11: start, push, run, ended, height, part, memory and state. */
public final class RunTest {
    private static final Check CHECK = new Check("RunTest");

    public static void main(String[] args) {
        startTakesItsGas();
        startBeginsAnew();
        startThatFailsChangesNothing();
        pushMakesWords();
        pushIsRefused();
        runCountsSteps();
        runTakes1To500();
        heightAndPart();
        memoryHas160Bytes();
        memoryOfWhatWasReturned();
        stateOfTheRun();
        CHECK.finish();
    }

    private static void startTakesItsGas() {
        WideStack x = new WideStack();
        for (int gas : new int[] {-1, 10000, Integer.MIN_VALUE, Integer.MAX_VALUE}) {
            CHECK.due("start(" + gas + ")", x.start(gas), false);
            CHECK.due("ended", x.ended(), -1);
        }
        for (int gas : new int[] {0, 1, 9998, 9999}) {
            CHECK.due("start(" + gas + ")", x.start(gas), true);
            CHECK.due("gas", x.state(0), gas);
        }
    }

    private static void startBeginsAnew() {
        WideStack x = Check.with(0x60, 9, 0x60, 64, 0x53, 0x60, 1, 0x60, 64, 0xF3);
        x.start(100);
        x.push(1, 1, 1, 1);
        x.run(500);
        CHECK.due("ended", x.ended(), 2);
        CHECK.due("start again", x.start(50), true);
        CHECK.due("ended", x.ended(), 0);
        CHECK.due("height", x.height(), 0);
        CHECK.due("part", x.part(0, 0), 0);
        CHECK.due("gas", x.state(0), 50);
        CHECK.due("counter", x.state(1), 0);
        CHECK.due("size", x.state(2), 0);
        CHECK.due("returned", x.state(3), 0);
        CHECK.due("memory", x.memory(64, false), 0);
        CHECK.due("returned byte", x.memory(0, true), -1);
    }

    private static void startThatFailsChangesNothing() {
        WideStack x = Check.with(0x60, 9);
        x.start(100);
        x.run(1);
        CHECK.due("start(10000)", x.start(10000), false);
        CHECK.due("ended", x.ended(), 0);
        CHECK.due("part", x.part(0, 0), 9);
        CHECK.due("gas", x.state(0), 97);
        CHECK.due("counter", x.state(1), 2);
    }

    private static void pushMakesWords() {
        WideStack x = new WideStack();
        x.start(0);
        CHECK.due("push", x.push(1, 2, 3, 4), true);
        CHECK.due("word", Check.word(x, 0), "0000000100000002000000020000000200000002000000020000000300000004");
        CHECK.due("push", x.push(-1, 0, Integer.MIN_VALUE, -2), true);
        CHECK.due("word", Check.word(x, 0), "ffffffff000000000000000000000000000000000000000080000000fffffffe");
        CHECK.due("word below", Check.word(x, 1), "0000000100000002000000020000000200000002000000020000000300000004");
        CHECK.due("gas stays", x.state(0), 0);
        CHECK.due("counter stays", x.state(1), 0);
    }

    private static void pushIsRefused() {
        WideStack x = new WideStack();
        CHECK.due("push without a run", x.push(0, 0, 0, 1), false);
        x.start(5);
        for (int i = 0; i < 16; i++) {
            CHECK.due("push " + i, x.push(0, 0, 0, i), true);
        }
        CHECK.due("push 16", x.push(0, 0, 0, 16), false);
        CHECK.due("height", x.height(), 16);
        CHECK.due("topmost", x.part(0, 0), 15);
        x.start(5);
        x.run(1);
        CHECK.due("ended", x.ended(), 1);
        CHECK.due("push behind the end", x.push(0, 0, 0, 1), false);
        CHECK.due("height", x.height(), 0);
    }

    private static void runCountsSteps() {
        WideStack x = Check.with(0x60, 1, 0x60, 2, 0x01, 0x5B, 0x00, 0x5B);
        x.start(100);
        CHECK.due("run(1)", x.run(1), 1);
        CHECK.due("counter", x.state(1), 2);
        CHECK.due("run(2)", x.run(2), 2);
        CHECK.due("ended", x.ended(), 0);
        CHECK.due("run(500)", x.run(500), 1);
        CHECK.due("ended", x.ended(), 1);
        CHECK.due("counter stays at STOP", x.state(1), 6);
        CHECK.due("run behind the end", x.run(500), 0);
        CHECK.due("ended", x.ended(), 1);
        CHECK.due("counter", x.state(1), 6);
        // A run that goes to and fro ends with its gas alone.
        WideStack y = Check.with(0x5B, 0x60, 0, 0x56);
        y.start(9999);
        CHECK.due("run(500)", y.run(500), 500);
        CHECK.due("gas", y.state(0), 9999 - 166 * 12 - 4);
        CHECK.due("ended", y.ended(), 0);
        CHECK.due("counter", y.state(1), 3);
    }

    private static void runTakes1To500() {
        WideStack x = Check.with(0x5B);
        CHECK.due("no run", x.run(1), -1);
        x.start(9);
        for (int n : new int[] {0, -1, 501, Integer.MIN_VALUE, Integer.MAX_VALUE}) {
            CHECK.due("run(" + n + ")", x.run(n), -1);
        }
        CHECK.due("nothing done", x.state(1), 0);
        CHECK.due("run(500)", x.run(500), 1);
        CHECK.due("run(501) behind the end", x.run(501), -1);
        CHECK.due("run(0) behind the end", x.run(0), -1);
    }

    private static void heightAndPart() {
        WideStack x = new WideStack();
        CHECK.due("height without a run", x.height(), 0);
        x.start(1);
        x.push(7, 6, 1, 10);
        x.push(17, 16, 11, 20);
        CHECK.due("height", x.height(), 2);
        int[] due = {20, 11, 16, 16, 16, 16, 16, 17};
        for (int p = 0; p < 8; p++) {
            CHECK.due("part(0, " + p + ")", x.part(0, p), due[p]);
        }
        CHECK.due("part(1, 0)", x.part(1, 0), 10);
        CHECK.due("part(1, 7)", x.part(1, 7), 7);
        CHECK.due("part(1, 6)", x.part(1, 6), 6);
        int[][] none = {{2, 0}, {-1, 0}, {0, -1}, {0, 8}, {16, 0}, {1000, 3}, {0, 32},
            {Integer.MIN_VALUE, 0}, {Integer.MAX_VALUE, 7}, {0, Integer.MIN_VALUE}, {1, Integer.MAX_VALUE}};
        for (int[] pair : none) {
            CHECK.due("part(" + pair[0] + ", " + pair[1] + ")", x.part(pair[0], pair[1]), 0);
        }
        x.run(1);
        CHECK.due("ended", x.ended(), 1);
        CHECK.due("height behind the end", x.height(), 2);
        CHECK.due("part behind the end", x.part(0, 0), 20);
    }

    private static void memoryHas160Bytes() {
        WideStack x = Check.with(0x61, 0x12, 0x34, 0x60, 3, 0x52);
        CHECK.due("memory without a run", x.memory(0, false), -1);
        x.start(100);
        for (int k : new int[] {0, 31, 32, 159}) {
            CHECK.due("memory(" + k + ")", x.memory(k, false), 0);
        }
        for (int k : new int[] {-1, 160, 1000, Integer.MIN_VALUE, Integer.MAX_VALUE}) {
            CHECK.due("memory(" + k + ")", x.memory(k, false), -1);
        }
        x.run(3);
        CHECK.due("memory(32)", x.memory(32, false), 0);
        CHECK.due("memory(33)", x.memory(33, false), 0x12);
        CHECK.due("memory(34)", x.memory(34, false), 0x34);
        CHECK.due("memory(35)", x.memory(35, false), 0);
        CHECK.due("nothing is returned yet", x.memory(0, true), -1);
        x.run(1);
        CHECK.due("ended", x.ended(), 1);
        CHECK.due("nothing is returned by STOP", x.memory(0, true), -1);
        CHECK.due("memory behind the end", x.memory(33, false), 0x12);
    }

    private static void memoryOfWhatWasReturned() {
        // FFh at byte 6, then RETURN of 3 bytes from 5 on.
        WideStack x = Check.with(0x60, 0xFF, 0x60, 6, 0x53, 0x60, 3, 0x60, 5, 0xF3);
        x.start(100);
        CHECK.due("run", x.run(500), 5);
        CHECK.due("ended", x.ended(), 2);
        int[] due = {0, 0xFF, 0, -1, -1};
        for (int k = 0; k < due.length; k++) {
            CHECK.due("memory(" + k + ", true)", x.memory(k, true), due[k]);
        }
        for (int k : new int[] {-1, -4, 160, Integer.MIN_VALUE, Integer.MAX_VALUE}) {
            CHECK.due("memory(" + k + ", true)", x.memory(k, true), -1);
        }
        CHECK.due("memory(6, false)", x.memory(6, false), 0xFF);
        CHECK.due("memory(159, false)", x.memory(159, false), 0);
        CHECK.due("returned", x.state(3), 3);
        CHECK.due("counter stays", x.state(1), 9);
        CHECK.due("A and B are taken", x.height(), 0);
        x.clear();
        x.start(1);
        CHECK.due("a new run has returned nothing", x.memory(0, true), -1);
    }

    private static void stateOfTheRun() {
        WideStack x = Check.with(0x60, 64, 0x51);
        for (int what = 0; what < 4; what++) {
            CHECK.due("state(" + what + ") without a run", x.state(what), -1);
        }
        x.start(77);
        x.run(2);
        CHECK.due("gas", x.state(0), 77 - 3 - 3 - 9);
        CHECK.due("counter", x.state(1), 3);
        CHECK.due("size", x.state(2), 96);
        CHECK.due("returned", x.state(3), 0);
        for (int what : new int[] {-1, 4, 5, Integer.MIN_VALUE, Integer.MAX_VALUE}) {
            CHECK.due("state(" + what + ")", x.state(what), -1);
        }
    }
}
