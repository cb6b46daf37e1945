/** Promises 1, 2, 3 and 14: a new object, code, clear and marked. */
public final class CodeTest {
    private static final Check CHECK = new Check("CodeTest");

    public static void main(String[] args) {
        checkNothing("new", new WideStack());
        codeTakesBytesAlone();
        codeHolds96Bytes();
        codeGoesOnInARun();
        codeLeavesWhatWasAnalysed();
        clearForgetsAll();
        clearForgetsNumbers();
        markedKnowsNumbers();
        markedFollowsTheCode();
        CHECK.finish();
    }

    /** What an object answers that has no code and no run and has analysed nothing. */
    private static void checkNothing(String which, WideStack x) {
        CHECK.due(which + " ended", x.ended(), -1);
        CHECK.due(which + " height", x.height(), 0);
        CHECK.due(which + " run", x.run(1), -1);
        CHECK.due(which + " push", x.push(1, 2, 3, 4), false);
        CHECK.due(which + " part", x.part(0, 0), 0);
        CHECK.due(which + " memory", x.memory(0, false), -1);
        CHECK.due(which + " returned", x.memory(0, true), -1);
        for (int what = -1; what < 5; what++) {
            CHECK.due(which + " state " + what, x.state(what), -1);
        }
        for (int place = -1; place < 140; place++) {
            CHECK.due(which + " reached " + place, x.reached(place), -1);
            CHECK.due(which + " marked " + place, x.marked(place), false);
        }
    }

    private static void codeTakesBytesAlone() {
        WideStack x = new WideStack();
        CHECK.due("code(-1)", x.code(-1), false);
        CHECK.due("code(256)", x.code(256), false);
        CHECK.due("code(least)", x.code(Integer.MIN_VALUE), false);
        CHECK.due("code(greatest)", x.code(Integer.MAX_VALUE), false);
        CHECK.due("code(0x15B)", x.code(0x15B), false);
        CHECK.due("code(0x5B)", x.code(0x5B), true);
        CHECK.due("the first byte is at place 0", x.marked(0), true);
        CHECK.due("code(0)", x.code(0), true);
        CHECK.due("code(255)", x.code(255), true);
    }

    private static void codeHolds96Bytes() {
        WideStack x = new WideStack();
        for (int i = 0; i < 96; i++) {
            CHECK.due("byte " + i, x.code(0x5B), true);
        }
        CHECK.due("byte 96", x.code(0x5B), false);
        CHECK.due("byte 97", x.code(0), false);
        CHECK.due("marked(95)", x.marked(95), true);
        CHECK.due("marked(96)", x.marked(96), false);
        x.start(200);
        CHECK.due("run", x.run(200), 96);
        CHECK.due("ended", x.ended(), 1);
        x.clear();
        CHECK.due("byte after clear", x.code(1), true);
    }

    private static void codeGoesOnInARun() {
        WideStack x = Check.with(0x60, 7);
        x.start(100);
        CHECK.due("first run", x.run(1), 1);
        Check.append(x, 0x60, 8, 0x01);
        CHECK.due("run of what came later", x.run(2), 2);
        CHECK.due("sum", x.part(0, 0), 15);
        CHECK.due("end", x.run(1), 0);
        Check.append(x, 0x60);
        CHECK.due("an ended run stays ended", x.run(5), 0);
        CHECK.due("ended", x.ended(), 1);
        CHECK.due("counter", x.state(1), 5);
        // The number's bytes are those that the code has when the instruction is done.
        WideStack y = Check.with(0x61, 1);
        y.start(100);
        Check.append(y, 2);
        y.run(1);
        CHECK.due("number", y.part(0, 0), 0x102);
    }

    private static void codeLeavesWhatWasAnalysed() {
        WideStack x = Check.with(0x60, 7);
        CHECK.due("analyse", x.analyse(), 0);
        Check.append(x, 0x60, 8);
        CHECK.due("reached(2)", x.reached(2), 1);
        CHECK.due("reached(4)", x.reached(4), -1);
        x.code(256);
        CHECK.due("reached(2) still", x.reached(2), 1);
        CHECK.due("analyse again", x.analyse(), 0);
        CHECK.due("reached(4) now", x.reached(4), 2);
    }

    private static void clearForgetsAll() {
        WideStack x = Check.with(0x5B, 0x60, 1, 0x60, 0, 0x53, 0x60, 1, 0x60, 0, 0xF3);
        x.analyse();
        x.start(100);
        x.push(1, 2, 3, 4);
        x.run(500);
        CHECK.due("ended", x.ended(), 2);
        x.clear();
        checkNothing("cleared", x);
        CHECK.due("analyse the empty code", x.analyse(), 0);
        CHECK.due("reached(0)", x.reached(0), 0);
        CHECK.due("reached(1)", x.reached(1), -1);
        x.start(5);
        CHECK.due("run the empty code", x.run(1), 0);
        CHECK.due("ended", x.ended(), 1);
        x.clear();
        x.clear();
        checkNothing("cleared twice", x);
    }

    private static void clearForgetsNumbers() {
        WideStack x = Check.with(0x7F, 1);
        x.clear();
        Check.append(x, 0x5B, 0x5B);
        CHECK.due("marked(0)", x.marked(0), true);
        CHECK.due("marked(1)", x.marked(1), true);
    }

    private static void markedKnowsNumbers() {
        // 61h takes 5Bh 5Bh as its number; 60h inside a number takes nothing.
        WideStack x = Check.with(0x61, 0x5B, 0x5B, 0x5B, 0x61, 0x60, 0x5B, 0x5B, 0x01, 0x60);
        boolean[] due = {false, false, false, true, false, false, false, true, false, false};
        for (int place = 0; place < due.length; place++) {
            CHECK.due("marked(" + place + ")", x.marked(place), due[place]);
        }
        for (int place : new int[] {-1, 10, 11, 95, 96, 128, 1000, Integer.MIN_VALUE, Integer.MAX_VALUE}) {
            CHECK.due("marked(" + place + ")", x.marked(place), false);
        }
        for (int op = 0x60; op < 0x80; op++) {
            WideStack y = Check.with(Check.join(new int[] {op}, Check.times(40, 0x5B)));
            int count = op - 0x5F;
            CHECK.due("last byte of the number of " + op, y.marked(count), false);
            CHECK.due("first byte behind the number of " + op, y.marked(count + 1), true);
        }
        for (int op : new int[] {0x5F, 0x80, 0x5B, 0xF3, 0x0A, 0xFF}) {
            CHECK.due("behind " + op, Check.with(op, 0x5B).marked(1), true);
        }
    }

    private static void markedFollowsTheCode() {
        WideStack x = Check.with(0x60);
        x.code(0x5B);
        CHECK.due("number", x.marked(1), false);
        CHECK.due("not there yet", x.marked(2), false);
        x.code(0x5B);
        CHECK.due("behind the number", x.marked(2), true);
    }
}
