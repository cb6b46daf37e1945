/** Promises 12 and 13: analyse and reached. */
public final class AnalyserTest {
    private static final Check CHECK = new Check("AnalyserTest");

    public static void main(String[] args) {
        straightCode();
        everyByteAtEveryHeight();
        undefinedBytes();
        heights();
        jumpsNeedANumber();
        jumpsNeedAMark();
        placesBehindJumps();
        twoHeights();
        leastPlaceFirst();
        nextPlaceWithAnotherHeight();
        placesBehindTheEnd();
        latestAnalyseCounts();
        leavesTheRunAlone();
        CHECK.finish();
    }

    private static void judged(String call, WideStack x, int place, int reason) {
        CHECK.due(call, x.analyse(), 8 * place + reason);
    }

    private static void reached(String call, WideStack x, int... heights) {
        for (int place = 0; place < heights.length; place++) {
            CHECK.due(call + ": reached(" + place + ")", x.reached(place), heights[place]);
        }
        CHECK.due(call + ": reached nothing behind", x.reached(heights.length), -1);
    }

    private static void straightCode() {
        WideStack x = Check.with(0x60, 5, 0x60, 3, 0x01, 0x80, 0x50, 0x5B, 0x58);
        judged("straight", x, 0, 0);
        reached("straight", x, 0, -1, 1, -1, 2, 1, 2, 1, 1, 2);
        for (int place : new int[] {-1, 96, 128, 129, 143, 144, 1000, Integer.MIN_VALUE, Integer.MAX_VALUE}) {
            CHECK.due("reached(" + place + ")", x.reached(place), -1);
        }
        WideStack y = Check.with(0x60, 1, 0x00, 0xFE);
        judged("STOP", y, 0, 0);
        reached("STOP", y, 0, -1, 1);
        WideStack z = Check.with(0x58, 0x58, 0xF3, 0xFE);
        judged("RETURN", z, 0, 0);
        reached("RETURN", z, 0, 1, 2);
        WideStack none = new WideStack();
        judged("no code", none, 0, 0);
        reached("no code", none, 0);
    }

    /** The analyser must refuse for its heights just when a run would end with 5 or 6. */
    private static void everyByteAtEveryHeight() {
        for (int op = 0; op < 256; op++) {
            for (int height = 0; height <= 16; height++) {
                WideStack x = Check.with(Check.times(height, 0x58));
                x.code(op);
                x.start(9999);
                x.run(height + 1);
                int how = x.ended();
                boolean jump = op == 0x56 || op == 0x57;
                int reason = how == 7 ? 1 : how == 5 || how == 6 ? 2 : jump ? 3 : 0;
                judged("byte " + op + " at height " + height, x, reason == 0 ? 0 : height, reason);
                boolean last = op == 0 || op == 0xF3;
                int length = op >= 0x60 && op < 0x80 ? op - 0x5E : 1;
                int due = reason != 0 || last ? -1 : x.height();
                CHECK.due("reached behind " + op, x.reached(height + length), due);
            }
        }
    }

    private static void undefinedBytes() {
        judged("undefined at 0", Check.with(0xFE), 0, 1);
        judged("undefined at 3", Check.with(0x60, 1, 0x50, 0x0A), 3, 1);
        judged("undefined in a number", Check.with(0x60, 0x0A), 0, 0);
        judged("undefined that is not reached", Check.with(0x60, 4, 0x56, 0xFE, 0x5B), 0, 0);
    }

    private static void heights() {
        judged("A alone", Check.with(0x60, 1, 0x01), 2, 2);
        judged("17 words", Check.with(Check.times(17, 0x58)), 16, 2);
        judged("16 words", Check.with(Check.times(16, 0x58)), 0, 0);
        judged("repeat below", Check.with(0x58, 0x81), 1, 2);
        judged("exchange below", Check.with(0x58, 0x90), 1, 2);
        judged("9Fh", Check.with(Check.join(Check.times(16, 0x58), new int[] {0x9F})), 16, 2);
        judged("9Eh", Check.with(Check.join(Check.times(16, 0x58), new int[] {0x9E})), 0, 0);
        judged("57h of one word", Check.with(0x60, 3, 0x57, 0x5B), 2, 2);
        judged("56h of none", Check.with(0x5B, 0x56), 1, 2);
        judged("RETURN of one word", Check.with(0x58, 0xF3), 1, 2);
        judged("STOP of a full stack", Check.with(Check.join(Check.times(16, 0x58), new int[] {0})), 0, 0);
    }

    private static void jumpsNeedANumber() {
        judged("a place before it", Check.with(0x58, 0x56), 1, 3);
        judged("a number further before", Check.with(0x5B, 0x60, 0, 0x5B, 0x56), 4, 3);
        judged("a repeat before it", Check.with(0x5B, 0x60, 0, 0x80, 0x57), 4, 3);
        judged("2 before 3", Check.with(0x5B, 0x57), 1, 2);
        // 60h as the last byte of a number is no instruction.
        judged("a number that ends like one", Check.with(0x60, 0x60, 0x56), 2, 4);
        judged("a number behind a number", Check.with(0x5B, 0x60, 0x60, 0x15, 0x56), 4, 3);
    }

    private static void jumpsNeedAMark() {
        judged("no mark", Check.with(0x60, 0, 0x56), 2, 4);
        judged("a mark in a number", Check.with(0x60, 4, 0x56, 0x60, 0x5B), 2, 4);
        judged("behind the code", Check.with(0x60, 3, 0x56), 2, 4);
        judged("behind all code", Check.with(0x60, 0xFF, 0x56), 2, 4);
        judged("good", Check.with(0x60, 3, 0x56, 0x5B), 0, 0);
        judged("good in two bytes", Check.with(0x61, 0, 4, 0x56, 0x5B), 0, 0);
        judged("256 too far", Check.with(0x61, 1, 4, 0x56, 0x5B), 3, 4);
        int[] wide = Check.join(new int[] {0x7F}, Check.times(31, 0), new int[] {34, 0x56, 0x5B});
        judged("good in 32 bytes", Check.with(wide), 0, 0);
        for (int i = 1; i < 32; i++) {
            int[] far = wide.clone();
            far[i] = i % 2 == 0 ? 1 : 0x80;
            judged("too far in byte " + i, Check.with(far), 33, 4);
        }
        judged("57h to no mark", Check.with(0x58, 0x60, 0, 0x57), 3, 4);
    }

    private static void placesBehindJumps() {
        WideStack x = Check.with(0x60, 5, 0x56, 0x58, 0x58, 0x5B);
        judged("56h", x, 0, 0);
        reached("56h", x, 0, -1, 1, -1, -1, 0, 0);
        WideStack y = Check.with(0x58, 0x60, 5, 0x57, 0x00, 0x5B, 0x58);
        judged("57h", y, 0, 0);
        reached("57h", y, 0, 1, -1, 2, 0, 0, 0, 1);
        WideStack again = Check.with(0x5B, 0x58, 0x60, 0, 0x57);
        judged("57h back", again, 0, 0);
        reached("57h back", again, 0, 0, 1, -1, 2, 0);
        WideStack next = Check.with(0x58, 0x60, 4, 0x57, 0x5B);
        judged("57h to the next place", next, 0, 0);
        reached("57h to the next place", next, 0, 1, -1, 2, 0, 0);
        WideStack ever = Check.with(0x5B, 0x60, 0, 0x56);
        judged("56h back", ever, 0, 0);
        reached("56h back", ever, 0, 0, -1, 1);
    }

    private static void twoHeights() {
        WideStack x = Check.with(0x5B, 0x58, 0x60, 0, 0x56);
        judged("56h back with one word more", x, 4, 5);
        reached("56h back with one word more", x, 0, 0, 1, -1, 2);
        // 57h reaches the next place first; then its target was reached with another height.
        WideStack y = Check.with(0x5B, 0x58, 0x58, 0x60, 0, 0x57, 0x58);
        judged("57h back with one word more", y, 5, 5);
        reached("57h back with one word more", y, 0, 0, 1, 2, -1, 3, 1);
        // The mark at 6 is reached from 3 with 0 words, then from 5 with 1.
        WideStack z = Check.with(0x58, 0x60, 6, 0x57, 0x5B, 0x58, 0x5B);
        judged("a place behind with another height", z, 5, 5);
        reached("a place behind with another height", z, 0, 1, -1, 2, 0, 0, 0);
    }

    private static void leastPlaceFirst() {
        // 57h reaches 6 and 4; the undefined byte at 4 is looked at before the one at 6.
        judged("both are bad", Check.with(0x58, 0x60, 6, 0x57, 0xFE, 0x00, 0x5B, 0xFE), 4, 1);
        // From 14 it goes back to 5, and what is behind that is looked at before 15.
        WideStack x = Check.with(0x60, 10, 0x56, 0x00, 0x00, 0x5B, 0xFE, 0x00, 0x00, 0x00,
            0x5B, 0x58, 0x60, 5, 0x57, 0xFE);
        judged("back first", x, 6, 1);
        CHECK.due("the place behind was reached", x.reached(15), 0);
        CHECK.due("reached(5)", x.reached(5), 0);
        CHECK.due("reached(7)", x.reached(7), -1);
    }

    private static void nextPlaceWithAnotherHeight() {
        // The mark at 9 is reached from 3 with 0 words; the 57h at 8 comes to it with 1, and reaches no more.
        int[] code = {0x58, 0x60, 9, 0x57, 0x58, 0x58, 0x60, 11, 0x57, 0x5B, 0x00, 0x5B};
        WideStack x = Check.with(code);
        judged("the next place has another height", x, 8, 5);
        reached("the next place has another height", x, 0, 1, -1, 2, 0, 1, 2, -1, 3, 0, -1);
        code[5] = 0x5B;
        WideStack y = Check.with(code);
        judged("the next place has the same height", y, 0, 0);
        reached("the next place has the same height", y, 0, 1, -1, 2, 0, 1, 1, -1, 2, 0, 0, 0, 0);
    }

    private static void placesBehindTheEnd() {
        WideStack x = Check.with(0x7F);
        judged("7Fh alone", x, 0, 0);
        CHECK.due("reached(33)", x.reached(33), 1);
        CHECK.due("reached(1)", x.reached(1), -1);
        CHECK.due("reached(34)", x.reached(34), -1);
        WideStack y = Check.with(Check.join(Check.times(95, 0x5B), new int[] {0x7F}));
        judged("7Fh as the last byte", y, 0, 0);
        CHECK.due("reached(95)", y.reached(95), 0);
        CHECK.due("reached(96)", y.reached(96), -1);
        CHECK.due("reached(128)", y.reached(128), 1);
        CHECK.due("reached(129)", y.reached(129), -1);
        WideStack z = Check.with(Check.times(96, 0x5B));
        judged("a full code", z, 0, 0);
        CHECK.due("reached(96)", z.reached(96), 0);
        CHECK.due("reached(97)", z.reached(97), -1);
        judged("a bad last byte", Check.with(Check.join(Check.times(95, 0x5B), new int[] {0x01})), 95, 2);
    }

    private static void latestAnalyseCounts() {
        WideStack x = Check.with(0x58, 0x58);
        CHECK.due("reached before any analyse", x.reached(0), -1);
        judged("first", x, 0, 0);
        CHECK.due("reached(2)", x.reached(2), 2);
        x.clear();
        CHECK.due("reached after clear", x.reached(0), -1);
        Check.append(x, 0x60, 1);
        CHECK.due("reached before analyse", x.reached(2), -1);
        judged("second", x, 0, 0);
        reached("second", x, 0, -1, 1);
        Check.append(x, 0x01);
        judged("third", x, 2, 2);
        reached("third", x, 0, -1, 1);
    }

    private static void leavesTheRunAlone() {
        WideStack x = Check.with(0x60, 7, 0x60, 8);
        x.start(100);
        x.run(1);
        judged("in a run", x, 0, 0);
        CHECK.due("counter", x.state(1), 2);
        CHECK.due("part", x.part(0, 0), 7);
        CHECK.due("height", x.height(), 1);
        CHECK.due("run", x.run(9), 1);
        CHECK.due("reached stays", x.reached(4), 2);
        x.start(5);
        CHECK.due("reached stays behind start", x.reached(4), 2);
    }
}
