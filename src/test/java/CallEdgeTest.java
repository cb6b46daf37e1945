/** Each sentence of the promises, and of what 'Terms' says of the analyser, that names a boundary. */
public final class CallEdgeTest {
    private static final Check CHECK = new Check("CallEdgeTest");
    private static final int LEAST = Integer.MIN_VALUE;
    private static final int GREATEST = Integer.MAX_VALUE;

    public static void main(String[] args) {
        anObjectAnswers512Calls();
        aNewObjectHasNothing();
        codeIsRefusedWhenFull();
        codeIsRefusedOutside0To255();
        aRefusedByteLeavesTheCode();
        aRunGoesOnWithTheCodeAsItIs();
        anEndedRunStaysEndedWithMoreCode();
        whatWasAnalysedStaysWithMoreCode();
        clearEmptiesAFullCode();
        clearLeavesNoRunAndNoAnalysis();
        startIsRefusedOutside0To9999();
        aRefusedStartLeavesTheRun();
        startEmptiesStackAndMemory();
        pushIsRefusedWithoutARun();
        pushIsRefusedAfterEveryEnding();
        pushIsRefusedAtSixteenWords();
        pushFillsPartsTwoToSix();
        runIsRefusedWithoutARun();
        runIsRefusedOutside1To500();
        runCountsStepsThatDidNotEndTheRun();
        runOnAnEndedRunDoesNothing();
        endedTellsEveryEnding();
        heightWithoutARun();
        partOfNoWord();
        partOfNoPart();
        memoryOfNoByte();
        returnedBytesCountFromA();
        returnedBytesWithoutAReturn();
        stateOfAnotherWhat();
        stateWithoutARun();
        reasons();
        noInstructionBeforePlace0();
        heightsAtTheAnalysersLimits();
        jumpNumbersAtTheirLimits();
        leastPlaceIsLookedAtFirst();
        nothingMoreIsReachedAfterReason5();
        placesReachedBehindTheEnd();
        reachedOfNoPlace();
        reachedKeepsTheFirstHeight();
        markedOfNoPlace();
        CHECK.finish();
    }

    private static WideStack started(int gas, int... code) {
        WideStack x = Check.with(code);
        x.start(gas);
        return x;
    }

    /** A run that ended in the way given, with one word on its stack. */
    private static WideStack endedWith(int how) {
        int[][] codes = {{}, {0x00}, {0x58, 0x58, 0xF3}, {0x60, 9, 0x56}, {0x02}, {0x01}, {0x58}, {0xFE}, {0x80, 0x51}};
        WideStack x = started(how == 4 ? 4 : 99, codes[how]);
        int words = how == 6 ? 16 : how == 4 ? 2 : 1;
        for (int i = 0; i < words; i++) {
            x.push(-1, -1, -1, -1);
        }
        x.run(500);
        return x;
    }

    /** "An object is used for at most 512 calls after it has been made". */
    private static void anObjectAnswers512Calls() {
        WideStack x = started(9999, 0x5B, 0x60, 0, 0x56);
        // The code and the start were 5 calls.
        for (int call = 6; call <= 510; call++) {
            CHECK.due("call " + call, x.run(3), 3);
        }
        CHECK.due("call 511: the gas", x.state(0), 9999 - 505 * (1 + 3 + 8));
        CHECK.due("call 512: the counter", x.state(1), 0);
    }

    /** Promise 1: "No code, nothing started or analysed." */
    private static void aNewObjectHasNothing() {
        WideStack x = new WideStack();
        CHECK.due("ended", x.ended(), -1);
        CHECK.due("reached(0)", x.reached(0), -1);
        CHECK.due("marked(0)", x.marked(0), false);
        CHECK.due("start", x.start(0), true);
        CHECK.due("the empty code stops at once", x.run(500), 0);
        CHECK.due("ended", x.ended(), 1);
        CHECK.due("analyse", x.analyse(), 0);
        CHECK.due("reached(0)", x.reached(0), 0);
    }

    /** Promise 2: "false when there are 96". */
    private static void codeIsRefusedWhenFull() {
        WideStack x = Check.with(Check.times(95, 0x5B));
        CHECK.due("marked(95) of 95 bytes", x.marked(95), false);
        CHECK.due("96th byte", x.code(0x5B), true);
        CHECK.due("marked(95) of 96 bytes", x.marked(95), true);
        for (int b : new int[] {0, 0x5B, 255, 256, -1}) {
            CHECK.due("97th byte " + b, x.code(b), false);
        }
        CHECK.due("marked(96)", x.marked(96), false);
    }

    /** Promise 2: "or b is not 0 .. 255". */
    private static void codeIsRefusedOutside0To255() {
        WideStack x = new WideStack();
        for (int b : new int[] {-1, 256, -256, 0x15B, LEAST, GREATEST}) {
            CHECK.due("code(" + b + ")", x.code(b), false);
        }
        for (int b : new int[] {0, 1, 127, 128, 254, 255}) {
            CHECK.due("code(" + b + ")", x.code(b), true);
        }
    }

    private static void aRefusedByteLeavesTheCode() {
        WideStack x = Check.with(0x60);
        for (int i = 0; i < 100; i++) {
            CHECK.due("code(256)", x.code(256), false);
        }
        // The refused bytes are no bytes of the number.
        x.code(0x5B);
        x.code(0x5B);
        CHECK.due("marked(1)", x.marked(1), false);
        CHECK.due("marked(2)", x.marked(2), true);
        for (int i = 3; i < 96; i++) {
            CHECK.due("byte " + i, x.code(0), true);
        }
        CHECK.due("byte 96", x.code(0), false);
    }

    /** Promise 2: "A run ... go[es] on with the code as it is." */
    private static void aRunGoesOnWithTheCodeAsItIs() {
        WideStack x = started(99, 0x5B);
        CHECK.due("run to the end", x.run(1), 1);
        x.code(0x60);
        CHECK.due("60h with no byte yet", x.run(1), 1);
        CHECK.due("counter", x.state(1), 3);
        // This byte belongs to the number, which was 0 when the step was done.
        x.code(7);
        CHECK.due("the word given stays", x.part(0, 0), 0);
        x.code(0x56);
        CHECK.due("56h to the mark", x.run(1), 1);
        CHECK.due("counter", x.state(1), 0);
        CHECK.due("ended", x.ended(), 0);
    }

    private static void anEndedRunStaysEndedWithMoreCode() {
        WideStack x = started(99);
        CHECK.due("run", x.run(1), 0);
        x.code(0x5B);
        CHECK.due("ended", x.ended(), 1);
        CHECK.due("run", x.run(1), 0);
        CHECK.due("gas", x.state(0), 99);
        WideStack y = started(99, 0x60, 3, 0x56);
        CHECK.due("run to no mark", y.run(9), 1);
        y.code(0x5B);
        CHECK.due("ended", y.ended(), 3);
        CHECK.due("run", y.run(1), 0);
    }

    private static void whatWasAnalysedStaysWithMoreCode() {
        WideStack x = Check.with(0x60, 3, 0x56);
        CHECK.due("analyse", x.analyse(), 8 * 2 + 4);
        x.code(0x5B);
        CHECK.due("reached(3)", x.reached(3), -1);
        CHECK.due("reached(2)", x.reached(2), 1);
        CHECK.due("analyse again", x.analyse(), 0);
        CHECK.due("reached(3)", x.reached(3), 0);
        CHECK.due("reached(4)", x.reached(4), 0);
    }

    /** Promise 3: "The code is empty". */
    private static void clearEmptiesAFullCode() {
        WideStack x = Check.with(Check.times(96, 0x5B));
        x.clear();
        CHECK.due("marked(0)", x.marked(0), false);
        CHECK.due("analyse", x.analyse(), 0);
        CHECK.due("reached(1)", x.reached(1), -1);
        for (int i = 0; i < 96; i++) {
            CHECK.due("byte " + i, x.code(0x01), true);
        }
        CHECK.due("byte 96", x.code(0x01), false);
        CHECK.due("marked(0)", x.marked(0), false);
        // A number that the old code had cut off takes none of the new bytes.
        WideStack y = Check.with(0x7F);
        y.clear();
        Check.append(y, 0x5B, 0x60, 0, 0x56);
        CHECK.due("marked(0)", y.marked(0), true);
        CHECK.due("analyse", y.analyse(), 0);
    }

    /** Promise 3: "no run is started, nothing analysed". */
    private static void clearLeavesNoRunAndNoAnalysis() {
        for (int how = 0; how <= 8; how++) {
            WideStack x = endedWith(how == 0 ? 1 : how);
            x.analyse();
            if (how == 0) {
                x.start(50);
                x.push(1, 2, 3, 4);
            }
            x.clear();
            CHECK.due("ended", x.ended(), -1);
            CHECK.due("run", x.run(1), -1);
            CHECK.due("push", x.push(1, 1, 1, 1), false);
            CHECK.due("height", x.height(), 0);
            CHECK.due("part", x.part(0, 0), 0);
            CHECK.due("memory", x.memory(0, false), -1);
            CHECK.due("returned", x.memory(0, true), -1);
            CHECK.due("reached(0)", x.reached(0), -1);
            for (int what = 0; what < 4; what++) {
                CHECK.due("state(" + what + ")", x.state(what), -1);
            }
        }
    }

    /** Promise 4: "False when gas is not 0 .. 9999." */
    private static void startIsRefusedOutside0To9999() {
        for (int gas : new int[] {-1, 10000, 10001, LEAST, GREATEST}) {
            WideStack x = new WideStack();
            CHECK.due("start(" + gas + ")", x.start(gas), false);
            CHECK.due("ended", x.ended(), -1);
            CHECK.due("run", x.run(1), -1);
        }
        for (int gas : new int[] {0, 1, 9998, 9999}) {
            WideStack x = new WideStack();
            CHECK.due("start(" + gas + ")", x.start(gas), true);
            CHECK.due("gas", x.state(0), gas);
            CHECK.due("ended", x.ended(), 0);
        }
    }

    private static void aRefusedStartLeavesTheRun() {
        for (int gas : new int[] {-1, 10000}) {
            WideStack x = started(30, 0x53, 0x5B);
            x.push(0, 0, 0, 8);
            x.push(0, 0, 0, 6);
            x.push(0, 0, 0, 5);
            x.run(1);
            CHECK.due("start(" + gas + ")", x.start(gas), false);
            CHECK.due("gas", x.state(0), 24);
            CHECK.due("counter", x.state(1), 1);
            CHECK.due("size", x.state(2), 32);
            CHECK.due("part", x.part(0, 0), 8);
            CHECK.due("memory", x.memory(5, false), 6);
            CHECK.due("run", x.run(5), 1);
            CHECK.due("start of an ended run", x.start(gas), false);
            CHECK.due("ended", x.ended(), 1);
        }
    }

    /** Promise 4: "gas, stack and memory empty, counter 0". */
    private static void startEmptiesStackAndMemory() {
        WideStack x = started(99, 0x53, 0x58, 0x58, 0xF3);
        x.push(0, 0, 0, 9);
        x.push(0, 0, 0, 6);
        x.push(0, 0, 0, 159);
        CHECK.due("run", x.run(500), 3);
        CHECK.due("start", x.start(7), true);
        CHECK.due("ended", x.ended(), 0);
        CHECK.due("height", x.height(), 0);
        CHECK.due("part", x.part(0, 0), 0);
        CHECK.due("memory", x.memory(159, false), 0);
        CHECK.due("returned byte", x.memory(0, true), -1);
        int[] due = {7, 0, 0, 0};
        for (int what = 0; what < 4; what++) {
            CHECK.due("state(" + what + ")", x.state(what), due[what]);
        }
        CHECK.due("start amid a run", x.start(8), true);
        CHECK.due("gas", x.state(0), 8);
    }

    /** Promise 5: "False when no run is started". */
    private static void pushIsRefusedWithoutARun() {
        WideStack x = new WideStack();
        CHECK.due("push", x.push(1, 2, 3, 4), false);
        x.start(-1);
        CHECK.due("push behind a refused start", x.push(1, 2, 3, 4), false);
        x.start(0);
        CHECK.due("nothing was put", x.height(), 0);
        CHECK.due("push", x.push(1, 2, 3, 4), true);
        CHECK.due("height", x.height(), 1);
    }

    /** Promise 5: "it has ended". */
    private static void pushIsRefusedAfterEveryEnding() {
        for (int how = 1; how <= 8; how++) {
            WideStack x = endedWith(how);
            int height = x.height();
            CHECK.due("ended", x.ended(), how);
            CHECK.due("push behind ending " + how, x.push(1, 2, 3, 4), false);
            CHECK.due("height", x.height(), height);
        }
    }

    /** Promise 5: "or there are 16 words". */
    private static void pushIsRefusedAtSixteenWords() {
        WideStack x = started(9, 0x50);
        for (int i = 1; i <= 16; i++) {
            CHECK.due("word " + i, x.push(0, 0, 0, i), true);
        }
        CHECK.due("word 17", x.push(0, 0, 0, 17), false);
        CHECK.due("height", x.height(), 16);
        CHECK.due("topmost", x.part(0, 0), 16);
        CHECK.due("deepest", x.part(15, 0), 1);
        CHECK.due("50h", x.run(1), 1);
        CHECK.due("word 16 again", x.push(0, 0, 0, 18), true);
        CHECK.due("word 17 again", x.push(0, 0, 0, 19), false);
        CHECK.due("topmost", x.part(0, 0), 18);
    }

    /** Promise 5: "its parts 1 and 0 are high and low, part 7 top, the others those of fill". */
    private static void pushFillsPartsTwoToSix() {
        WideStack x = started(0);
        x.push(LEAST, -1, GREATEST, 5);
        int[] due = {5, GREATEST, -1, -1, -1, -1, -1, LEAST};
        for (int p = 0; p < 8; p++) {
            CHECK.due("part(0, " + p + ")", x.part(0, p), due[p]);
        }
    }

    /** Promise 6: "-1 when no run is started". */
    private static void runIsRefusedWithoutARun() {
        WideStack x = Check.with(0x5B);
        for (int n : new int[] {0, 1, 500, 501}) {
            CHECK.due("run(" + n + ")", x.run(n), -1);
        }
        x.start(10000);
        CHECK.due("run behind a refused start", x.run(1), -1);
    }

    /** Promise 6: "or n is not 1 .. 500". */
    private static void runIsRefusedOutside1To500() {
        WideStack x = started(9999, 0x5B, 0x60, 0, 0x56);
        for (int n : new int[] {0, -1, 501, 502, LEAST, GREATEST}) {
            CHECK.due("run(" + n + ")", x.run(n), -1);
            CHECK.due("gas", x.state(0), 9999);
        }
        CHECK.due("run(1)", x.run(1), 1);
        CHECK.due("run(499)", x.run(499), 499);
        CHECK.due("run(500)", x.run(500), 500);
        WideStack y = endedWith(1);
        CHECK.due("run(0) of an ended run", y.run(0), -1);
        CHECK.due("run(501) of an ended run", y.run(501), -1);
    }

    /** Promise 6: "n steps, or until the run ends: how many were done that did not end it". */
    private static void runCountsStepsThatDidNotEndTheRun() {
        for (int n = 1; n <= 6; n++) {
            WideStack x = started(99, 0x5B, 0x5B, 0x5B, 0x00);
            CHECK.due("run(" + n + ")", x.run(n), Math.min(n, 3));
            CHECK.due("ended", x.ended(), n > 3 ? 1 : 0);
            CHECK.due("counter", x.state(1), Math.min(n, 3));
        }
        WideStack y = started(2, 0x5B, 0x5B, 0x5B);
        CHECK.due("the step without gas is not counted", y.run(3), 2);
        CHECK.due("ended", y.ended(), 4);
    }

    private static void runOnAnEndedRunDoesNothing() {
        for (int how = 1; how <= 8; how++) {
            WideStack x = endedWith(how);
            int gas = x.state(0);
            int height = x.height();
            CHECK.due("run(1) behind ending " + how, x.run(1), 0);
            CHECK.due("run(500) behind ending " + how, x.run(500), 0);
            CHECK.due("ended", x.ended(), how);
            CHECK.due("gas", x.state(0), gas);
            CHECK.due("height", x.height(), height);
        }
    }

    /** Promise 7: "How the run ended: 0 not yet, -1 when none is started." */
    private static void endedTellsEveryEnding() {
        CHECK.due("none is started", new WideStack().ended(), -1);
        CHECK.due("not yet", started(0).ended(), 0);
        for (int how = 1; how <= 8; how++) {
            CHECK.due("ending " + how, endedWith(how).ended(), how);
        }
    }

    /** Promise 8: "0 when no run is started". */
    private static void heightWithoutARun() {
        WideStack x = new WideStack();
        CHECK.due("new", x.height(), 0);
        x.start(5);
        CHECK.due("started", x.height(), 0);
        x.push(1, 1, 1, 1);
        CHECK.due("one word", x.height(), 1);
        x.clear();
        CHECK.due("cleared", x.height(), 0);
    }

    /** Promise 9: "Part p of the word k below the topmost; 0 when there is none." */
    private static void partOfNoWord() {
        WideStack x = started(9);
        CHECK.due("no word", x.part(0, 0), 0);
        for (int i = 0; i < 16; i++) {
            x.push(-1, -1, -1, -1);
        }
        CHECK.due("part(15, 0)", x.part(15, 0), -1);
        CHECK.due("part(15, 7)", x.part(15, 7), -1);
        for (int k : new int[] {-1, 16, 17, LEAST, GREATEST}) {
            CHECK.due("part(" + k + ", 0)", x.part(k, 0), 0);
        }
        WideStack y = started(9, 0x50);
        y.push(-1, -1, -1, -1);
        y.run(1);
        CHECK.due("a word that was taken", y.part(0, 0), 0);
    }

    private static void partOfNoPart() {
        WideStack x = started(9);
        x.push(-1, -1, -1, -1);
        x.push(-1, -1, -1, -1);
        for (int p : new int[] {-1, 8, 9, 16, LEAST, GREATEST}) {
            CHECK.due("part(0, " + p + ")", x.part(0, p), 0);
            CHECK.due("part(1, " + p + ")", x.part(1, p), 0);
        }
    }

    /** Promise 10: "Byte k of the memory; ... -1 when there is none." */
    private static void memoryOfNoByte() {
        WideStack x = started(99, 0x53, 0x53);
        x.push(0, 0, 0, 0x1FF);
        x.push(0, 0, 0, 159);
        x.push(0, 0, 0, 0x180);
        x.push(0, 0, 0, 0);
        x.run(2);
        CHECK.due("byte 0", x.memory(0, false), 0x80);
        CHECK.due("byte 159", x.memory(159, false), 0xFF);
        for (int k : new int[] {-1, 160, 161, LEAST, GREATEST}) {
            CHECK.due("memory(" + k + ")", x.memory(k, false), -1);
        }
        CHECK.due("no run", new WideStack().memory(0, false), -1);
    }

    /** Promise 10: "of what was returned ... (k counts from A then)". */
    private static void returnedBytesCountFromA() {
        int[][] rows = {{0, 160}, {0, 1}, {159, 1}, {31, 2}, {128, 32}, {5, 0}};
        for (int[] row : rows) {
            WideStack x = started(99, 0x53, 0x53, 0xF3);
            int last = row[0] + Math.max(row[1] - 1, 0);
            int[] lows = {row[1], row[0], 0xAB, row[0], 0xCD, last};
            for (int low : lows) {
                x.push(0, 0, 0, low);
            }
            CHECK.due("run", x.run(9), 2);
            CHECK.due("ended", x.ended(), 2);
            CHECK.due("returned", x.state(3), row[1]);
            CHECK.due("first byte", x.memory(0, true), row[1] == 0 ? -1 : 0xAB);
            if (row[1] > 1) {
                CHECK.due("last byte", x.memory(row[1] - 1, true), 0xCD);
            }
            for (int k : new int[] {-1, row[1], 160, LEAST, GREATEST}) {
                CHECK.due("memory(" + k + ", true)", x.memory(k, true), -1);
            }
            CHECK.due("the memory stays", x.memory(row[0], false), 0xAB);
        }
    }

    /** Promise 10: "when the run ended so". */
    private static void returnedBytesWithoutAReturn() {
        CHECK.due("no run", new WideStack().memory(0, true), -1);
        CHECK.due("a run that goes on", started(9).memory(0, true), -1);
        for (int how = 1; how <= 8; how++) {
            if (how != 2) {
                CHECK.due("ending " + how, endedWith(how).memory(0, true), -1);
                CHECK.due("bytes of ending " + how, endedWith(how).state(3), 0);
            }
        }
    }

    /** Promise 11: "-1 for another what". */
    private static void stateOfAnotherWhat() {
        for (int what : new int[] {-1, 4, 5, LEAST, GREATEST}) {
            CHECK.due("state(" + what + ")", started(9).state(what), -1);
            CHECK.due("state(" + what + ") behind RETURN", endedWith(2).state(what), -1);
        }
    }

    /** Promise 11: "or when no run is started". */
    private static void stateWithoutARun() {
        for (int what = -1; what < 5; what++) {
            CHECK.due("state(" + what + ")", new WideStack().state(what), -1);
        }
    }

    private static void refused(String call, int place, int reason, int... code) {
        CHECK.due(call, Check.with(code).analyse(), 8 * place + reason);
    }

    /** Promise 12: "0 when it is accepted, otherwise 8 * the place looked at + the reason". */
    private static void reasons() {
        refused("accepted", 0, 0, 0x00);
        refused("1 at place 0", 0, 1, 0xFF);
        refused("2 at place 0", 0, 2, 0x50);
        refused("3", 1, 3, 0x58, 0x56);
        refused("4", 2, 4, 0x60, 2, 0x56);
        refused("5", 4, 5, 0x5B, 0x58, 0x60, 0, 0x56);
        int[] late = Check.times(96, 0x5B);
        late[95] = 0x0A;
        refused("1 at place 95", 95, 1, late);
        late[95] = 0x01;
        refused("2 at place 95", 95, 2, late);
    }

    /** "(there is none before place 0)": a jump there takes more than its height, which is the first reason. */
    private static void noInstructionBeforePlace0() {
        refused("56h at 0", 0, 2, 0x56);
        refused("57h at 0", 0, 2, 0x57);
    }

    /** "it takes more than its height, or the stack would have more than 16 words". */
    private static void heightsAtTheAnalysersLimits() {
        for (int height = 0; height <= 16; height++) {
            int[] before = Check.times(height, 0x58);
            refused("01 at " + height, height < 2 ? height : 0, height < 2 ? 2 : 0, Check.join(before, new int[] {1}));
            refused("08 at " + height, height < 3 ? height : 0, height < 3 ? 2 : 0, Check.join(before, new int[] {8}));
            refused("60h at " + height, height > 15 ? height : 0, height > 15 ? 2 : 0,
                Check.join(before, new int[] {0x60, 1}));
            refused("F3h at " + height, height < 2 ? height : 0, height < 2 ? 2 : 0,
                Check.join(before, new int[] {0xF3}));
            refused("00 at " + height, 0, 0, Check.join(before, new int[] {0x00}));
        }
        int[] full = Check.times(16, 0x58);
        refused("8Fh at 16", 16, 2, Check.join(full, new int[] {0x8F}));
        refused("8Eh at 15", 0, 0, Check.join(Check.times(15, 0x58), new int[] {0x8E}));
        refused("8Fh at 15", 15, 2, Check.join(Check.times(15, 0x58), new int[] {0x8F}));
        refused("9Fh at 16", 16, 2, Check.join(full, new int[] {0x9F}));
        refused("9Eh at 16", 0, 0, Check.join(full, new int[] {0x9E}));
    }

    /** "that number is no place that may be jumped to". */
    private static void jumpNumbersAtTheirLimits() {
        refused("to place 0", 0, 0, 0x5B, 0x60, 0, 0x56);
        int[] far = Check.join(new int[] {0x60, 95, 0x56}, Check.times(93, 0x5B));
        refused("to place 95", 0, 0, far);
        far[1] = 96;
        refused("to place 96", 2, 4, far);
        far[1] = 2;
        refused("to itself", 2, 4, far);
        refused("into its number", 2, 4, 0x60, 1, 0x56);
        refused("into a number that is a mark", 4, 4, 0x60, 0x5B, 0x60, 1, 0x56);
        // The lowest parts of these numbers are marked places.
        refused("a mark", 0, 0, 0x64, 0, 0, 0, 0, 7, 0x56, 0x5B);
        refused("2^32 above a mark", 6, 4, 0x64, 1, 0, 0, 0, 7, 0x56, 0x5B);
        refused("2^64 above a mark", 10, 4, 0x68, 1, 0, 0, 0, 0, 0, 0, 0, 11, 0x56, 0x5B);
    }

    /** "it looks at the least of these". */
    private static void leastPlaceIsLookedAtFirst() {
        refused("57h: the next place first", 4, 1, 0x58, 0x60, 5, 0x57, 0xFE, 0x5B, 0xFE);
        WideStack x = Check.with(0x58, 0x60, 5, 0x57, 0xFE, 0x5B, 0xFE);
        x.analyse();
        CHECK.due("its place is reached, too", x.reached(5), 0);
        CHECK.due("it is not looked at", x.reached(6), -1);
    }

    /** "5 one of them was reached before with another height (nothing more is reached then)". */
    private static void nothingMoreIsReachedAfterReason5() {
        // From 3 the mark at 9 is reached with 0; the 57h at 8 comes to it with 1, and does not reach 11.
        WideStack x = Check.with(0x58, 0x60, 9, 0x57, 0x58, 0x58, 0x60, 11, 0x57, 0x5B, 0x00, 0x5B);
        CHECK.due("the next place has another height", x.analyse(), 8 * 8 + 5);
        CHECK.due("reached(9)", x.reached(9), 0);
        CHECK.due("reached(11)", x.reached(11), -1);
        // The 57h at 5 reaches 6 with 1 before it comes back to 0 with 1.
        WideStack y = Check.with(0x5B, 0x58, 0x58, 0x60, 0, 0x57, 0x58);
        CHECK.due("the place has another height", y.analyse(), 8 * 5 + 5);
        CHECK.due("reached(6)", y.reached(6), 1);
        CHECK.due("reached(7)", y.reached(7), -1);
        CHECK.due("reached(0)", y.reached(0), 0);
    }

    /** "behind its end stand 00". */
    private static void placesReachedBehindTheEnd() {
        for (int op = 0x60; op < 0x80; op++) {
            WideStack x = Check.with(op);
            CHECK.due("analyse", x.analyse(), 0);
            for (int place = 1; place < 40; place++) {
                CHECK.due("reached(" + place + ")", x.reached(place), place == op - 0x5E ? 1 : -1);
            }
        }
        WideStack y = Check.with(Check.times(96, 0x5B));
        CHECK.due("analyse", y.analyse(), 0);
        CHECK.due("reached(96)", y.reached(96), 0);
        CHECK.due("reached(97)", y.reached(97), -1);
        int[] code = Check.times(96, 0x5B);
        code[95] = 0x7F;
        WideStack z = Check.with(code);
        CHECK.due("analyse", z.analyse(), 0);
        CHECK.due("reached(127)", z.reached(127), -1);
        CHECK.due("reached(128)", z.reached(128), 1);
        CHECK.due("reached(129)", z.reached(129), -1);
    }

    /** Promise 13: "-1 when it did not, or there was none". */
    private static void reachedOfNoPlace() {
        WideStack x = Check.with(0x58);
        CHECK.due("no analyse", x.reached(0), -1);
        x.analyse();
        CHECK.due("reached(0)", x.reached(0), 0);
        for (int place : new int[] {-1, 2, 96, 128, 129, 143, 144, 1000, LEAST, GREATEST}) {
            CHECK.due("reached(" + place + ")", x.reached(place), -1);
        }
    }

    /** Promise 13: "The height with which the latest analyse reached a place (first)". */
    private static void reachedKeepsTheFirstHeight() {
        WideStack x = Check.with(0x5B, 0x58, 0x60, 0, 0x56);
        CHECK.due("analyse", x.analyse(), 8 * 4 + 5);
        CHECK.due("reached(0)", x.reached(0), 0);
        CHECK.due("reached(4)", x.reached(4), 2);
    }

    /** Promise 14: "Whether a place may be jumped to." */
    private static void markedOfNoPlace() {
        WideStack x = Check.with(Check.join(new int[] {0x60, 0x5B}, Check.times(94, 0x5B)));
        boolean[] due = {false, false, true};
        for (int place = 0; place < 3; place++) {
            CHECK.due("marked(" + place + ")", x.marked(place), due[place]);
        }
        CHECK.due("marked(95)", x.marked(95), true);
        for (int place : new int[] {-1, 96, 97, 128, 1000, LEAST, GREATEST}) {
            CHECK.due("marked(" + place + ")", x.marked(place), false);
        }
    }
}
