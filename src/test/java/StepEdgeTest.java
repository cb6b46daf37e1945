/** Each sentence of 'Terms' that names a boundary of the code, the stack, the memory and the step. */
public final class StepEdgeTest {
    private static final Check CHECK = new Check("StepEdgeTest");
    private static final int[] GREATEST = {-1, -1, -1, -1};
    /** Words whose lowest parts look like small numbers. */
    private static final int[][] GREAT = {{0, 0, 1, 0}, {0, 1, 0, 0}, {1, 0, 0, 0}, {Integer.MIN_VALUE, 0, 0, 0}};

    public static void main(String[] args) {
        theStackHoldsSixteenWords();
        theSeventeenthWordIsRefused();
        everyMemoryByteIs0AtFirst();
        sizeIs0AtFirst();
        bytesOfANumberBehindTheEndCountAs0();
        allBytesBehindTheEndAreStop();
        wordsAreTakenInTheOrderABC();
        loadsReadUnusedMemoryAs0();
        wordsLieInMemoryHighestByteFirst();
        aByteIsPutAlone();
        theLastWordAndByteOfTheMemory();
        repeatsUpToFifteenBelow();
        exchangesUpToSixteenBelow();
        bytesBesideTheDefinedOnesAreUndefined();
        jumpsToTheFirstAndTheLastPlace();
        jumpsBehindTheEnd();
        jumpsIntoNumbers();
        jumpsToGreatPlaces();
        jumpIfOf0();
        sizeIsRoundedUp();
        returnPaysForItsMemory();
        returnOfNothingUsesNoMemory();
        sizeNeverShrinks();
        costJustPaid();
        gasBehindItself();
        placesOfInstructions();
        endingsKeepTheirOrder();
        endingsChangeNothing();
        stopAndReturnKeepTheCounter();
        CHECK.finish();
    }

    private static int[] small(int value) {
        return new int[] {0, 0, 0, value};
    }

    /** A run with words on its stack; the last one is topmost. */
    private static WideStack started(int gas, int[] code, int[]... words) {
        WideStack x = Check.with(code);
        x.start(gas);
        for (int[] word : words) {
            x.push(word[0], word[1], word[2], word[3]);
        }
        return x;
    }

    private static WideStack full(int gas, int... code) {
        WideStack x = started(gas, code);
        for (int i = 0; i < 16; i++) {
            x.push(0, 0, 0, 100 + i);
        }
        return x;
    }

    private static void ends(String call, WideStack x, int done, int how) {
        CHECK.due(call + ": steps", x.run(500), done);
        CHECK.due(call + ": ended", x.ended(), how);
    }

    private static void state(String call, WideStack x, int gas, int counter, int size) {
        CHECK.due(call + ": gas", x.state(0), gas);
        CHECK.due(call + ": counter", x.state(1), counter);
        CHECK.due(call + ": size", x.state(2), size);
    }

    /** "THE STACK has at most 16 words". */
    private static void theStackHoldsSixteenWords() {
        for (int op : new int[] {0x58, 0x59, 0x5A, 0x60, 0x7F, 0x80, 0x8E}) {
            WideStack x = started(100, new int[] {op});
            for (int i = 0; i < 15; i++) {
                x.push(0, 0, 0, i);
            }
            CHECK.due("16th word by " + op, x.run(1), 1);
            CHECK.due("height", x.height(), 16);
            CHECK.due("ended", x.ended(), 0);
        }
    }

    /** "6 when it would have more than 16". */
    private static void theSeventeenthWordIsRefused() {
        for (int op : new int[] {0x58, 0x59, 0x5A, 0x60, 0x7F, 0x80, 0x8E, 0x8F}) {
            WideStack x = full(100, op);
            ends("17th word by " + op, x, 0, 6);
            CHECK.due("height", x.height(), 16);
            CHECK.due("topmost", x.part(0, 0), 115);
        }
        // What takes as many words as it gives, or more, may find a full stack.
        for (int op : new int[] {0x01, 0x08, 0x15, 0x50, 0x51, 0x53, 0x5B, 0x90, 0x9E}) {
            CHECK.due("full stack at " + op, full(100, op).run(1), 1);
        }
    }

    /** "THE MEMORY has 160 bytes, 0 at first". */
    private static void everyMemoryByteIs0AtFirst() {
        WideStack x = started(0, new int[0]);
        for (int k = 0; k < 160; k++) {
            CHECK.due("memory(" + k + ")", x.memory(k, false), 0);
        }
        CHECK.due("memory(160)", x.memory(160, false), -1);
    }

    /** "its SIZE counts in steps of 32 bytes, 0 at first". */
    private static void sizeIs0AtFirst() {
        WideStack x = started(5, new int[] {0x59});
        CHECK.due("size", x.state(2), 0);
        x.run(1);
        CHECK.due("59h", Check.word(x, 0), "0".repeat(64));
    }

    /** "the highest first; those behind the code's end count as 0". */
    private static void bytesOfANumberBehindTheEndCountAs0() {
        for (int op = 0x60; op < 0x80; op++) {
            int count = op - 0x5F;
            for (int there = 0; there <= count; there++) {
                WideStack x = started(3, Check.join(new int[] {op}, Check.times(there, 0xE7)));
                CHECK.due("number of " + op, x.run(1), 1);
                String due = "00".repeat(32 - count) + "e7".repeat(there) + "00".repeat(count - there);
                CHECK.due("with " + there + " bytes", Check.word(x, 0), due);
                CHECK.due("counter", x.state(1), count + 1);
            }
        }
    }

    /** "Behind the code's end all bytes count as 00". */
    private static void allBytesBehindTheEndAreStop() {
        ends("no code", started(0, new int[0]), 0, 1);
        WideStack x = started(0, new int[0]);
        x.run(1);
        state("no code", x, 0, 0, 0);
        WideStack y = started(99, Check.times(96, 0x5B));
        ends("a full code", y, 96, 1);
        state("a full code", y, 3, 96, 0);
    }

    /** "What one takes goes off the stack, in the order A, B, C". */
    private static void wordsAreTakenInTheOrderABC() {
        WideStack x = started(20, new int[] {0x08, 0x03}, small(100), small(7), small(20), small(2));
        x.run(1);
        CHECK.due("(2 + 20) by 7", x.part(0, 0), 1);
        CHECK.due("height", x.height(), 2);
        x.run(1);
        CHECK.due("1 - 100", x.part(0, 0), -99);
        CHECK.due("height", x.height(), 1);
    }

    private static void loadsReadUnusedMemoryAs0() {
        WideStack x = started(30, new int[] {0x51}, small(128));
        CHECK.due("51h", x.run(1), 1);
        CHECK.due("word", Check.word(x, 0), "0".repeat(64));
        state("51h", x, 30 - 3 - 15, 1, 160);
    }

    /** "51h gives the 32 bytes of the memory at A, the highest first. 52h puts B's 32 bytes there". */
    private static void wordsLieInMemoryHighestByteFirst() {
        int[] word = {0x81828384, 0x91929394, 0xA1A2A3A4, 0xB1B2B3B4};
        String bytes = "81828384" + "91929394".repeat(5) + "a1a2a3a4b1b2b3b4";
        for (int at : new int[] {0, 1, 31, 32, 33, 127, 128}) {
            WideStack x = started(99, new int[] {0x52, 0x60, at, 0x51}, word, small(at));
            CHECK.due("52h at " + at, x.run(1), 1);
            for (int k = 0; k < 160; k++) {
                boolean inside = k >= at && k < at + 32;
                int due = inside ? Integer.parseInt(bytes.substring(2 * (k - at), 2 * (k - at) + 2), 16) : 0;
                CHECK.due("byte " + k, x.memory(k, false), due);
            }
            CHECK.due("51h at " + at, x.run(2), 2);
            CHECK.due("word", Check.word(x, 0), bytes);
        }
        // A word 0 goes over all 32 bytes that were there, and over no others.
        int[] code = {0x52, 0x52, 0x52, 0x60, 0, 0x60, 16, 0x52, 0x60, 16, 0x51};
        WideStack y = started(99, code, GREATEST, small(64), GREATEST, small(32), GREATEST, small(0));
        CHECK.due("run", y.run(8), 8);
        CHECK.due("word", Check.word(y, 0), "0".repeat(64));
        CHECK.due("byte 15", y.memory(15, false), 255);
        CHECK.due("byte 48", y.memory(48, false), 255);
    }

    /** "53h its lowest byte at A". */
    private static void aByteIsPutAlone() {
        for (int at : new int[] {0, 1, 31, 32, 158, 159}) {
            WideStack x = started(99, new int[] {0x53}, new int[] {-1, -1, -1, 0xFFFFFF80}, small(at));
            CHECK.due("53h at " + at, x.run(1), 1);
            for (int k = 0; k < 160; k++) {
                CHECK.due("byte " + k, x.memory(k, false), k == at ? 0x80 : 0);
            }
        }
    }

    /** "8 when memory beyond byte 159 is used". */
    private static void theLastWordAndByteOfTheMemory() {
        for (int op : new int[] {0x51, 0x52, 0x53}) {
            int last = op == 0x53 ? 159 : 128;
            CHECK.due("at the last place", started(99, new int[] {op}, small(1), small(last)).run(1), 1);
            for (int more : new int[] {1, 2, 31, 32, 33, 1000, Integer.MAX_VALUE - last}) {
                ends("beyond it by " + more, started(9999, new int[] {op}, small(1), small(last + more)), 0, 8);
            }
            for (int[] far : GREAT) {
                ends("at a great place", started(9999, new int[] {op}, small(1), far), 0, 8);
            }
            // 2^256 - 32 and 2^256 - 1: what is used must not wrap around to byte 0.
            for (int back : new int[] {1, 31, 32, 33}) {
                ends("before 2^256", started(9999, new int[] {op}, small(1), new int[] {-1, -1, -1, -back}), 0, 8);
            }
        }
    }

    /** "80h to 8Fh give the word 0 to 15 below the topmost once more". */
    private static void repeatsUpToFifteenBelow() {
        for (int k = 0; k < 16; k++) {
            for (int height = 0; height < 16; height++) {
                WideStack x = started(3, new int[] {0x80 + k});
                for (int i = 0; i < height; i++) {
                    x.push(0, 0, 0, 50 + i);
                }
                if (height < k + 1) {
                    ends("repeat with too few", x, 0, 5);
                } else {
                    CHECK.due("repeat", x.run(1), 1);
                    CHECK.due("word", x.part(0, 0), 50 + height - 1 - k);
                    CHECK.due("height", x.height(), height + 1);
                }
            }
        }
    }

    /** "90h to 9Fh exchange the topmost word and that 1 to 16 below". */
    private static void exchangesUpToSixteenBelow() {
        for (int k = 1; k <= 16; k++) {
            for (int height = 0; height <= 16; height++) {
                WideStack x = started(3, new int[] {0x8F + k});
                for (int i = 0; i < height; i++) {
                    x.push(0, 0, 0, 50 + i);
                }
                if (height < k + 1) {
                    ends("exchange with too few", x, 0, 5);
                    CHECK.due("topmost stays", x.part(0, 0), height == 0 ? 0 : 49 + height);
                } else {
                    CHECK.due("exchange", x.run(1), 1);
                    CHECK.due("topmost", x.part(0, 0), 49 + height - k);
                    CHECK.due("deepest", x.part(k, 0), 49 + height);
                    CHECK.due("height", x.height(), height);
                }
            }
        }
    }

    /** "All others are UNDEFINED". */
    private static void bytesBesideTheDefinedOnesAreUndefined() {
        for (int op : new int[] {0x0A, 0x0C, 0x0F, 0x1E, 0x1F, 0x20, 0x4F, 0x54, 0x55, 0x5C, 0x5F, 0xA0, 0xF0, 0xF2,
            0xF4, 0xFD, 0xFE, 0xFF}) {
            WideStack x = full(9999, op);
            ends("byte " + op, x, 0, 7);
            state("byte " + op, x, 9999, 0, 0);
        }
    }

    private static void jumpsToTheFirstAndTheLastPlace() {
        int[] code = Check.times(96, 0x5B);
        code[1] = 0x56;
        code[2] = 0x57;
        WideStack x = started(100, code, small(0));
        CHECK.due("back to place 0", x.run(2), 2);
        CHECK.due("counter", x.state(1), 0);
        WideStack y = started(100, code, small(95));
        CHECK.due("to place 95", y.run(2), 2);
        CHECK.due("counter", y.state(1), 95);
        CHECK.due("the mark there is done", y.run(2), 1);
        CHECK.due("counter", y.state(1), 96);
        ends("to place 96", started(100, code, small(96)), 1, 3);
    }

    /** "A jump goes to a place of the code". */
    private static void jumpsBehindTheEnd() {
        for (int far : new int[] {2, 3, 95, 96, 97, 128, 255, 256, 257, Integer.MAX_VALUE, Integer.MIN_VALUE, -1}) {
            ends("56h to " + far, started(99, new int[] {0x5B, 0x56}, small(far)), 1, 3);
            ends("57h to " + far, started(99, new int[] {0x5B, 0x57}, small(1), small(far)), 1, 3);
        }
    }

    /** "that is no byte of a number (numbers are found by going over the code from its beginning)". */
    private static void jumpsIntoNumbers() {
        // The 60h at 3 is a number's byte itself, so the mark at 4 is an instruction.
        int[] code = {0x56, 0x61, 0x5B, 0x60, 0x5B, 0x5B};
        int[] due = {3, 3, 3, 3, 1, 1};
        for (int place = 0; place < code.length; place++) {
            WideStack x = started(99, code, small(place));
            ends("56h to " + place, x, due[place] == 3 ? 0 : 7 - place, due[place]);
        }
        ends("behind a number that the code cuts off", started(99, new int[] {0x56, 0x7F, 0x5B}, small(2)), 0, 3);
    }

    private static void jumpsToGreatPlaces() {
        for (int[] far : GREAT) {
            ends("56h", started(99, new int[] {0x5B, 0x56}, far), 1, 3);
            ends("57h", started(99, new int[] {0x5B, 0x57}, small(1), far), 1, 3);
        }
        ends("56h to the greatest word", started(99, new int[] {0x5B, 0x56}, GREATEST), 1, 3);
    }

    /** "57h jumps to A if B is not 0". */
    private static void jumpIfOf0() {
        for (int[] place : new int[][] {small(0), small(1), small(200), GREATEST}) {
            WideStack x = started(99, new int[] {0x5B, 0x57}, small(0), place);
            CHECK.due("57h of 0", x.run(2), 2);
            state("57h of 0", x, 88, 2, 0);
            CHECK.due("height", x.height(), 0);
        }
        for (int[] b : GREAT) {
            WideStack x = started(99, new int[] {0x5B, 0x57}, b, small(0));
            CHECK.due("57h of a great word", x.run(2), 2);
            state("57h of a great word", x, 88, 0, 0);
        }
    }

    /** "the number of bytes up to the last one used, rounded up to a multiple of 32". */
    private static void sizeIsRoundedUp() {
        for (int a = 0; a < 160; a++) {
            WideStack x = started(18, new int[] {0x53}, small(7), small(a));
            int size = (a / 32 + 1) * 32;
            CHECK.due("53h at " + a, x.run(1), 1);
            state("53h at " + a, x, 15 - 3 * size / 32, 1, size);
            CHECK.due("byte " + a, x.memory(a, false), 7);
        }
        for (int a = 0; a <= 128; a++) {
            for (int op : new int[] {0x51, 0x52}) {
                WideStack x = started(18, new int[] {op}, small(7), small(a));
                int size = (a + 63) / 32 * 32;
                CHECK.due(op + " at " + a, x.run(1), 1);
                state(op + " at " + a, x, 15 - 3 * size / 32, 1, size);
            }
        }
    }

    /** "and, for 51h, 52h, 53h and F3h ..., 3 for each 32 bytes by which SIZE grows". */
    private static void returnPaysForItsMemory() {
        int[][] rows = {{0, 1, 32}, {31, 1, 32}, {0, 32, 32}, {31, 2, 64}, {32, 1, 64}, {0, 33, 64}, {0, 160, 160},
            {159, 1, 160}, {128, 32, 160}, {96, 32, 128}};
        for (int[] row : rows) {
            String call = "RETURN of " + row[1] + " at " + row[0];
            int price = 3 * row[2] / 32;
            WideStack x = started(price, new int[] {0xF3}, small(row[1]), small(row[0]));
            ends(call, x, 0, 2);
            state(call, x, 0, 0, row[2]);
            CHECK.due(call + ": returned", x.state(3), row[1]);
            WideStack y = started(price - 1, new int[] {0xF3}, small(row[1]), small(row[0]));
            ends(call + " with too little gas", y, 0, 4);
            state(call + " with too little gas", y, 0, 0, 0);
            CHECK.due(call + ": nothing is returned", y.state(3), 0);
            CHECK.due(call + ": no byte", y.memory(0, true), -1);
        }
        ends("of 1 at 160", started(9999, new int[] {0xF3}, small(1), small(160)), 0, 8);
        ends("of 33 at 128", started(9999, new int[] {0xF3}, small(33), small(128)), 0, 8);
        ends("of 161 at 0", started(9999, new int[] {0xF3}, small(161), small(0)), 0, 8);
        ends("that wraps around", started(9999, new int[] {0xF3}, small(1), GREATEST), 0, 8);
        ends("that wraps around", started(9999, new int[] {0xF3}, GREATEST, small(1)), 0, 8);
        for (int[] great : GREAT) {
            ends("of a great count", started(9999, new int[] {0xF3}, great, small(0)), 0, 8);
        }
    }

    /** "(unless B is 0)". */
    private static void returnOfNothingUsesNoMemory() {
        for (int[] from : new int[][] {small(0), small(159), small(160), small(-1), GREAT[0], GREAT[2], GREATEST}) {
            WideStack x = started(0, new int[] {0xF3}, small(0), from);
            ends("RETURN of nothing", x, 0, 2);
            state("RETURN of nothing", x, 0, 0, 0);
            CHECK.due("returned", x.state(3), 0);
            CHECK.due("no byte", x.memory(0, true), -1);
        }
    }

    /** "it becomes at least". */
    private static void sizeNeverShrinks() {
        WideStack x = started(100, new int[] {0x53, 0x53, 0xF3}, small(1), small(0), small(1), small(5), small(1),
            small(70));
        x.run(1);
        state("grown", x, 100 - 3 - 9, 1, 96);
        x.run(1);
        state("used again", x, 88 - 3, 2, 96);
        x.run(1);
        state("returned", x, 85, 2, 96);
        CHECK.due("ended", x.ended(), 2);
    }

    /** "4 when the cost is above the gas". */
    private static void costJustPaid() {
        for (int[] row : new int[][] {{0x01, 3}, {0x02, 5}, {0x08, 8}, {0x0B, 5}, {0x50, 2}, {0x51, 6}, {0x53, 6},
            {0x57, 10}, {0x58, 2}, {0x5A, 2}, {0x5B, 1}, {0x7F, 3}, {0x80, 3}, {0x90, 3}}) {
            int[] code = {row[0]};
            WideStack x = started(row[1], code, small(0), small(0), small(0));
            CHECK.due(row[0] + " with its cost", x.run(1), 1);
            CHECK.due("gas", x.state(0), 0);
            WideStack y = started(row[1] - 1, code, small(1), small(0), small(0));
            ends(row[0] + " with 1 less", y, 0, 4);
            state(row[0] + " with 1 less", y, 0, 0, 0);
            CHECK.due("height", y.height(), 3);
        }
        ends("STOP without gas", started(0, new int[] {0x00}), 0, 1);
    }

    /** "5Ah gives the gas that is left behind this instruction". */
    private static void gasBehindItself() {
        for (int gas : new int[] {2, 3, 256, 9999}) {
            WideStack x = started(gas, new int[] {0x5A});
            x.run(1);
            CHECK.due("5Ah of " + gas, Check.word(x, 0), String.format("%064x", gas - 2));
        }
    }

    /** "58h gives the instruction's place". */
    private static void placesOfInstructions() {
        WideStack x = started(2, new int[] {0x58});
        x.run(1);
        CHECK.due("at place 0", Check.word(x, 0), "0".repeat(64));
        int[] code = Check.times(96, 0x5B);
        code[95] = 0x58;
        WideStack y = started(999, code);
        CHECK.due("run", y.run(96), 96);
        CHECK.due("at place 95", y.part(0, 0), 95);
    }

    /** "with the first of these". */
    private static void endingsKeepTheirOrder() {
        ends("7 before 5, 6, 8, 4", full(0, 0xA0), 0, 7);
        ends("7 before 5", started(0, new int[] {0x0A}), 0, 7);
        ends("5 before 8 and 4", started(0, new int[] {0x53}, GREATEST), 0, 5);
        ends("5 before 4 and 3", started(0, new int[] {0x57}, GREATEST), 0, 5);
        ends("6 before 4", full(0, 0x5A), 0, 6);
        ends("8 before 4", started(0, new int[] {0x52}, GREATEST, GREATEST), 0, 8);
        ends("8 before 4", started(0, new int[] {0xF3}, GREATEST, GREATEST), 0, 8);
        ends("4 before 3", started(7, new int[] {0x56}, GREATEST), 0, 4);
        ends("3", started(8, new int[] {0x56}, GREATEST), 0, 3);
        ends("4 before 3", started(9, new int[] {0x57}, GREATEST, GREATEST), 0, 4);
    }

    /** "and changes nothing (but the gas, 0 then, for 4)". */
    private static void endingsChangeNothing() {
        unchanged("7", 50, 0xFE, 7);
        unchanged("5", 50, 0x84, 5);
        unchanged("8", 50, 0x52, 8);
        unchanged("8", 50, 0xF3, 8);
        unchanged("4", 2, 0x01, 4);
        unchanged("3", 50, 0x56, 3);
    }

    private static void unchanged(String call, int gas, int op, int how) {
        // 53h puts 77h at 40 first, at a price of 9.
        WideStack x = started(gas + 9, new int[] {0x53, op, 0x60, 1}, GREATEST, small(5), GREATEST, GREATEST,
            small(0x77), small(40));
        CHECK.due(call + ": first step", x.run(1), 1);
        ends(call, x, 0, how);
        state(call, x, how == 4 ? 0 : gas, 1, 64);
        CHECK.due(call + ": height", x.height(), 4);
        CHECK.due(call + ": topmost", x.part(0, 7), -1);
        CHECK.due(call + ": below", x.part(2, 0), 5);
        CHECK.due(call + ": memory", x.memory(40, false), 0x77);
        CHECK.due(call + ": returned", x.state(3), 0);
    }

    /** "1 STOP and 2 RETURN end it, too (the counter stays)". */
    private static void stopAndReturnKeepTheCounter() {
        WideStack x = started(5, new int[] {0x5B, 0x00, 0x5B}, small(9));
        ends("STOP", x, 1, 1);
        state("STOP", x, 4, 1, 0);
        CHECK.due("height", x.height(), 1);
        WideStack y = started(5, new int[] {0x5B, 0xF3, 0x5B}, small(9), small(1), small(0));
        ends("RETURN", y, 1, 2);
        state("RETURN", y, 1, 1, 32);
        CHECK.due("A and B went off the stack", y.height(), 1);
        CHECK.due("the word below stays", y.part(0, 0), 9);
        CHECK.due("run behind it", y.run(5), 0);
        state("run behind it", y, 1, 1, 32);
    }
}
