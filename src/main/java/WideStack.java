import java.util.Arrays;

/**
 * A stack machine for words of 256 bits: programs of bytes with gas, jumps to marked places alone, a memory that
 * grows, and an analyser that accepts programs whose jumps are constant and whose stack has one height at each place.
 */
public final class WideStack {
    private static final int MOST_GAS = 9999;
    private static final int MOST_STEPS = 500;

    private final Program program = new Program();
    private final Run current = new Run();
    private final Analyser analyser = new Analyser();

    /** No code, nothing started or analysed. */
    public WideStack() {
    }

    /** Puts a byte behind the code; false when the code is full or b is no byte. */
    public boolean code(int b) {
        return program.append(b);
    }

    /** Empties the code and forgets the run and what was analysed. */
    public void clear() {
        program.empty();
        current.forget();
        analyser.forget();
    }

    /** Starts a run with empty stack and memory; false, and nothing changes, when gas is not 0 .. 9999. */
    public boolean start(int gas) {
        if (gas < 0 || gas > MOST_GAS) {
            return false;
        }
        current.begin(gas);
        return true;
    }

    /** Puts a word onto the stack of a run that goes on; false when there is none or the stack is full. */
    public boolean push(int top, int fill, int high, int low) {
        return current.putWord(top, fill, high, low);
    }

    /** Does up to n steps: how many did not end the run; -1 without a run or when n is not 1 .. 500. */
    public int run(int n) {
        if (!current.isStarted() || n < 1 || n > MOST_STEPS) {
            return -1;
        }
        int done = 0;
        while (done < n && current.step(program)) {
            done++;
        }
        return done;
    }

    /** How the run ended: 0 not yet, -1 when none is started. */
    public int ended() {
        return current.isStarted() ? current.ending() : -1;
    }

    /** The words on the stack; 0 when no run is started. */
    public int height() {
        return current.words();
    }

    /** Part p of the word k below the topmost; 0 when there is none. */
    public int part(int k, int p) {
        return current.partOfWord(k, p);
    }

    /** Byte k of the memory or of what was returned; -1 when there is none. */
    public int memory(int k, boolean returned) {
        if (!current.isStarted()) {
            return -1;
        }
        return returned ? current.returnedByte(k) : current.memoryByte(k);
    }

    /** Of the run: 0 the gas, 1 the counter, 2 the memory's size, 3 how many bytes were returned; otherwise -1. */
    public int state(int what) {
        return current.isStarted() ? current.figure(what) : -1;
    }

    /** Analyses the code: 0 when it is accepted, otherwise 8 * the place looked at + the reason. */
    public int analyse() {
        return analyser.judge(program);
    }

    /** The height with which the latest analyse reached a place first; -1 when it did not. */
    public int reached(int place) {
        return analyser.heightAt(place);
    }

    /** Whether a place may be jumped to. */
    public boolean marked(int place) {
        return program.mayJumpTo(place);
    }

    /** The bytes of the instructions, and what each of them asks of the stack and the gas. */
    private static final class Instructions {
        static final int STOP = 0x00;
        static final int ADD = 0x01;
        static final int MULTIPLY = 0x02;
        static final int SUBTRACT = 0x03;
        static final int DIVIDE = 0x04;
        static final int SIGNED_DIVIDE = 0x05;
        static final int REST = 0x06;
        static final int SIGNED_REST = 0x07;
        static final int REST_OF_SUM = 0x08;
        static final int REST_OF_PRODUCT = 0x09;
        static final int EXTEND_SIGN = 0x0B;
        static final int LESS = 0x10;
        static final int GREATER = 0x11;
        static final int SIGNED_LESS = 0x12;
        static final int SIGNED_GREATER = 0x13;
        static final int EQUAL = 0x14;
        static final int IS_ZERO = 0x15;
        static final int AND = 0x16;
        static final int OR = 0x17;
        static final int EXCLUSIVE_OR = 0x18;
        static final int NOT = 0x19;
        static final int BYTE = 0x1A;
        static final int SHIFT_UP = 0x1B;
        static final int SHIFT_DOWN = 0x1C;
        static final int SIGNED_SHIFT_DOWN = 0x1D;
        static final int DROP = 0x50;
        static final int LOAD = 0x51;
        static final int SAVE = 0x52;
        static final int SAVE_BYTE = 0x53;
        static final int JUMP = 0x56;
        static final int JUMP_IF = 0x57;
        static final int PLACE = 0x58;
        static final int SIZE = 0x59;
        static final int GAS = 0x5A;
        static final int MARK = 0x5B;
        static final int FIRST_NUMBER = 0x60;
        static final int FIRST_REPEAT = 0x80;
        static final int FIRST_EXCHANGE = 0x90;
        static final int RETURN = 0xF3;

        /** Where the bytes that compute one word from others end. */
        static final int BEHIND_COMPUTING = 0x20;
        private static final int BEHIND_EXCHANGES = 0xA0;
        private static final int UNDEFINED = -1;

        private static final int[] NEEDED_FROM_00 = {
            0, 2, 2, 2, 2, 2, 2, 2, 3, 3, -1, 2, -1, -1, -1, -1,
            2, 2, 2, 2, 2, 1, 2, 2, 2, 1, 2, 2, 2, 2, -1, -1
        };
        private static final int[] NEEDED_FROM_50 = {
            1, 1, 2, 2, -1, -1, 1, 2, 0, 0, 0, 0, -1, -1, -1, -1
        };

        private Instructions() {
        }

        /** How many words must be on the stack; for repeats and exchanges down to the deepest one they touch. */
        static int wordsNeeded(int op) {
            if (op >= STOP && op < BEHIND_COMPUTING) {
                return NEEDED_FROM_00[op];
            }
            if (op >= DROP && op < FIRST_NUMBER) {
                return NEEDED_FROM_50[op - DROP];
            }
            if (op >= FIRST_NUMBER && op < FIRST_REPEAT) {
                return 0;
            }
            if (op >= FIRST_REPEAT && op < FIRST_EXCHANGE) {
                return op - FIRST_REPEAT + 1;
            }
            if (op >= FIRST_EXCHANGE && op < BEHIND_EXCHANGES) {
                return op - FIRST_EXCHANGE + 2;
            }
            return op == RETURN ? 2 : UNDEFINED;
        }

        static boolean isDefined(int op) {
            return wordsNeeded(op) != UNDEFINED;
        }

        /** How many words stand in the place of the needed ones behind a defined instruction. */
        static int wordsLeft(int op) {
            if (op > STOP && op < BEHIND_COMPUTING) {
                return 1;
            }
            if (op >= FIRST_NUMBER && op < FIRST_REPEAT) {
                return 1;
            }
            if (op >= FIRST_REPEAT && op < FIRST_EXCHANGE) {
                return wordsNeeded(op) + 1;
            }
            if (op >= FIRST_EXCHANGE && op < BEHIND_EXCHANGES) {
                return wordsNeeded(op);
            }
            return op == LOAD || op == PLACE || op == SIZE || op == GAS ? 1 : 0;
        }

        /** The cost without that of memory that grows. */
        static int cost(int op) {
            switch (op) {
                case STOP: case RETURN:
                    return 0;
                case MARK:
                    return 1;
                case DROP: case PLACE: case SIZE: case GAS:
                    return 2;
                case MULTIPLY: case DIVIDE: case SIGNED_DIVIDE: case REST: case SIGNED_REST: case EXTEND_SIGN:
                    return 5;
                case REST_OF_SUM: case REST_OF_PRODUCT: case JUMP:
                    return 8;
                case JUMP_IF:
                    return 10;
                default:
                    return 3;
            }
        }

        /** How many bytes of a number stand behind an instruction's own byte. */
        static int numberLength(int op) {
            return op >= FIRST_NUMBER && op < FIRST_REPEAT ? op - FIRST_NUMBER + 1 : 0;
        }

        static boolean isJump(int op) {
            return op == JUMP || op == JUMP_IF;
        }

        static boolean isLast(int op) {
            return op == STOP || op == RETURN;
        }
    }

    /** The code, and where its instructions begin. */
    private static final class Program {
        static final int MOST_BYTES = 96;
        static final int NO_PLACE = -1;

        private final int[] bytes = new int[MOST_BYTES];
        private final boolean[] begins = new boolean[MOST_BYTES];
        private final int[] before = new int[MOST_BYTES];
        private int length = 0;
        private int latestBegin = NO_PLACE;
        private int nextBegin = 0;

        void empty() {
            length = 0;
            latestBegin = NO_PLACE;
            nextBegin = 0;
        }

        boolean append(int b) {
            if (length >= MOST_BYTES || b < 0 || b > 255) {
                return false;
            }
            bytes[length] = b;
            begins[length] = length == nextBegin;
            before[length] = latestBegin;
            if (length == nextBegin) {
                latestBegin = length;
                nextBegin = length + 1 + Instructions.numberLength(b);
            }
            length++;
            return true;
        }

        /** The byte at a place; behind the code's end all bytes count as 00. */
        int byteAt(int place) {
            return isInside(place) ? bytes[place] : 0;
        }

        boolean mayJumpTo(int place) {
            return isInside(place) && begins[place] && bytes[place] == Instructions.MARK;
        }

        /** The place of the instruction before the one at a place, or NO_PLACE. */
        int placeBefore(int place) {
            return isInside(place) ? before[place] : NO_PLACE;
        }

        int placeBehind(int place) {
            return place + 1 + Instructions.numberLength(byteAt(place));
        }

        /** Reads the number of the instruction at a place, which is 0 when it has none. */
        void readNumber(int place, int[] to) {
            int count = Instructions.numberLength(byteAt(place));
            Words.makeZero(to);
            for (int i = 0; i < count; i++) {
                Words.setByte(to, Words.BYTES - count + i, byteAt(place + 1 + i));
            }
        }

        /** A word as a place of the code; one that is too great becomes a place behind the code. */
        static int asPlace(int[] word) {
            return Words.atMost(word, MOST_BYTES);
        }

        private boolean isInside(int place) {
            return place >= 0 && place < length;
        }
    }

    /** Words as rows of eight parts, the lowest first. */
    private static final class Words {
        static final int PARTS = 8;
        static final int BYTES = 32;
        static final int BITS = 256;
        static final long LOW = 0xFFFFFFFFL;

        private Words() {
        }

        static void makeZero(int[] to) {
            Arrays.fill(to, 0);
        }

        static void copy(int[] from, int[] to) {
            System.arraycopy(from, 0, to, 0, PARTS);
        }

        static void setNumber(int[] to, int value) {
            makeZero(to);
            to[0] = value;
        }

        static void setTruth(int[] to, boolean truth) {
            setNumber(to, truth ? 1 : 0);
        }

        static boolean isZero(int[] a) {
            for (int p = 0; p < PARTS; p++) {
                if (a[p] != 0) {
                    return false;
                }
            }
            return true;
        }

        static boolean isNegative(int[] a) {
            return a[PARTS - 1] < 0;
        }

        /** The number of a word, or limit when it is above that. */
        static int atMost(int[] a, int limit) {
            for (int p = 1; p < PARTS; p++) {
                if (a[p] != 0) {
                    return limit;
                }
            }
            return a[0] < 0 || a[0] > limit ? limit : a[0];
        }

        /** Below 0 when a is less than b, above 0 when it is greater. */
        static int order(int[] a, int[] b) {
            for (int p = PARTS - 1; p >= 0; p--) {
                long x = a[p] & LOW;
                long y = b[p] & LOW;
                if (x != y) {
                    return x < y ? -1 : 1;
                }
            }
            return 0;
        }

        static int signedOrder(int[] a, int[] b) {
            if (isNegative(a) != isNegative(b)) {
                return isNegative(a) ? -1 : 1;
            }
            return order(a, b);
        }

        /** Writes a + b and answers what is carried beyond bit 255. */
        static int add(int[] a, int[] b, int[] to) {
            long carry = 0;
            for (int p = 0; p < PARTS; p++) {
                long sum = (a[p] & LOW) + (b[p] & LOW) + carry;
                to[p] = (int) sum;
                carry = sum >>> 32;
            }
            return (int) carry;
        }

        /** Writes a - b; the row written to may be that of a or b. */
        static void subtract(int[] a, int[] b, int[] to) {
            long borrow = 0;
            for (int p = 0; p < PARTS; p++) {
                long difference = (a[p] & LOW) - (b[p] & LOW) - borrow;
                to[p] = (int) difference;
                borrow = difference < 0 ? 1 : 0;
            }
        }

        static void negate(int[] a, int[] to) {
            long carry = 1;
            for (int p = 0; p < PARTS; p++) {
                long sum = (~a[p] & LOW) + carry;
                to[p] = (int) sum;
                carry = sum >>> 32;
            }
        }

        /** Copies a word, or writes its negative. */
        static void copyOrNegate(int[] a, boolean negative, int[] to) {
            if (negative) {
                negate(a, to);
            } else {
                copy(a, to);
            }
        }

        /** Writes the whole product into a row of twice as many parts. */
        static void multiply(int[] a, int[] b, int[] wide) {
            Arrays.fill(wide, 0);
            for (int i = 0; i < PARTS; i++) {
                long carry = 0;
                for (int j = 0; j < PARTS; j++) {
                    long sum = (a[i] & LOW) * (b[j] & LOW) + (wide[i + j] & LOW) + carry;
                    wide[i + j] = (int) sum;
                    carry = sum >>> 32;
                }
                wide[i + PARTS] = (int) carry;
            }
        }

        static void and(int[] a, int[] b, int[] to) {
            for (int p = 0; p < PARTS; p++) {
                to[p] = a[p] & b[p];
            }
        }

        static void or(int[] a, int[] b, int[] to) {
            for (int p = 0; p < PARTS; p++) {
                to[p] = a[p] | b[p];
            }
        }

        static void exclusiveOr(int[] a, int[] b, int[] to) {
            for (int p = 0; p < PARTS; p++) {
                to[p] = a[p] ^ b[p];
            }
        }

        static void not(int[] a, int[] to) {
            for (int p = 0; p < PARTS; p++) {
                to[p] = ~a[p];
            }
        }

        /** Byte k of a word, 0 the highest; 0 when there is none. */
        static int byteOf(int[] a, int k) {
            if (k < 0 || k >= BYTES) {
                return 0;
            }
            return (a[PARTS - 1 - k / 4] >>> (24 - 8 * (k % 4))) & 255;
        }

        /** Sets byte k, 0 the highest, of a word whose byte k is 0. */
        static void setByte(int[] to, int k, int b) {
            if (k >= 0 && k < BYTES) {
                to[PARTS - 1 - k / 4] |= b << (24 - 8 * (k % 4));
            }
        }

        static void shiftUp(int[] a, int count, int[] to) {
            int parts = count / 32;
            int bits = count % 32;
            for (int p = 0; p < PARTS; p++) {
                long pair = (partOr(a, p - parts, 0) & LOW) << 32 | partOr(a, p - parts - 1, 0) & LOW;
                to[p] = (int) (pair >>> (32 - bits));
            }
        }

        /** Shifts down, with the bits of fill coming from above. */
        static void shiftDown(int[] a, int count, int fill, int[] to) {
            int parts = count / 32;
            int bits = count % 32;
            for (int p = 0; p < PARTS; p++) {
                long pair = (partOr(a, p + parts + 1, fill) & LOW) << 32 | partOr(a, p + parts, fill) & LOW;
                to[p] = (int) (pair >>> bits);
            }
        }

        /** Writes a with all bits above the given one as that bit. */
        static void extendSign(int[] a, int bit, int[] to) {
            int last = bit / 32;
            int unused = 31 - bit % 32;
            for (int p = 0; p < PARTS; p++) {
                if (p < last) {
                    to[p] = a[p];
                } else if (p == last) {
                    to[p] = a[p] << unused >> unused;
                } else {
                    to[p] = to[p - 1] < 0 ? -1 : 0;
                }
            }
        }

        private static int partOr(int[] a, int p, int other) {
            return p >= 0 && p < PARTS ? a[p] : other;
        }
    }

    /** Long division, bit by bit, of a dividend twice as wide as a word. */
    private static final class Divider {
        private static final int WIDE_PARTS = 2 * Words.PARTS;

        final int[] dividend = new int[WIDE_PARTS];
        final int[] quotient = new int[WIDE_PARTS];
        final int[] rest = new int[Words.PARTS];

        void setDividend(int[] word) {
            Arrays.fill(dividend, 0);
            Words.copy(word, dividend);
        }

        void setDividendToSum(int[] a, int[] b) {
            Arrays.fill(dividend, 0);
            dividend[Words.PARTS] = Words.add(a, b, dividend);
        }

        /** Divides; by 0 the quotient and the rest are both 0. */
        void divideBy(int[] divisor) {
            Arrays.fill(quotient, 0);
            Arrays.fill(rest, 0);
            if (Words.isZero(divisor)) {
                return;
            }
            for (int bit = 32 * usedParts() - 1; bit >= 0; bit--) {
                // The rest may need a bit 256 for a moment; the difference is a word again.
                boolean over = Words.isNegative(rest);
                appendToRest(dividend[bit / 32] >>> (bit % 32) & 1);
                if (over || Words.order(rest, divisor) >= 0) {
                    Words.subtract(rest, divisor, rest);
                    quotient[bit / 32] |= 1 << (bit % 32);
                }
            }
        }

        private int usedParts() {
            int used = WIDE_PARTS;
            while (used > 0 && dividend[used - 1] == 0) {
                used--;
            }
            return used;
        }

        private void appendToRest(int bit) {
            for (int p = Words.PARTS - 1; p > 0; p--) {
                rest[p] = rest[p] << 1 | rest[p - 1] >>> 31;
            }
            rest[0] = rest[0] << 1 | bit;
        }
    }

    /** Does the instructions that compute one word from others. */
    private static final class Calculator {
        private final Divider divider = new Divider();
        private final int[] product = new int[2 * Words.PARTS];
        private final int[] dividendSize = new int[Words.PARTS];
        private final int[] divisorSize = new int[Words.PARTS];

        void compute(int op, int[] a, int[] b, int[] c, int[] to) {
            switch (op) {
                case Instructions.ADD: Words.add(a, b, to); break;
                case Instructions.MULTIPLY: multiply(a, b, to); break;
                case Instructions.SUBTRACT: Words.subtract(a, b, to); break;
                case Instructions.DIVIDE: divide(a, b, to); break;
                case Instructions.SIGNED_DIVIDE:
                    divideSizes(a, b);
                    Words.copyOrNegate(divider.quotient, Words.isNegative(a) != Words.isNegative(b), to);
                    break;
                case Instructions.REST: findRest(a, b, to); break;
                case Instructions.SIGNED_REST:
                    divideSizes(a, b);
                    Words.copyOrNegate(divider.rest, Words.isNegative(a), to);
                    break;
                case Instructions.REST_OF_SUM: findRestOfSum(a, b, c, to); break;
                case Instructions.REST_OF_PRODUCT: findRestOfProduct(a, b, c, to); break;
                case Instructions.EXTEND_SIGN: extendSign(a, b, to); break;
                case Instructions.LESS: Words.setTruth(to, Words.order(a, b) < 0); break;
                case Instructions.GREATER: Words.setTruth(to, Words.order(a, b) > 0); break;
                case Instructions.SIGNED_LESS: Words.setTruth(to, Words.signedOrder(a, b) < 0); break;
                case Instructions.SIGNED_GREATER: Words.setTruth(to, Words.signedOrder(a, b) > 0); break;
                case Instructions.EQUAL: Words.setTruth(to, Words.order(a, b) == 0); break;
                case Instructions.IS_ZERO: Words.setTruth(to, Words.isZero(a)); break;
                case Instructions.AND: Words.and(a, b, to); break;
                case Instructions.OR: Words.or(a, b, to); break;
                case Instructions.EXCLUSIVE_OR: Words.exclusiveOr(a, b, to); break;
                case Instructions.NOT: Words.not(a, to); break;
                case Instructions.BYTE: Words.setNumber(to, Words.byteOf(b, Words.atMost(a, Words.BYTES))); break;
                case Instructions.SHIFT_UP: Words.shiftUp(b, shiftCount(a), to); break;
                case Instructions.SHIFT_DOWN: Words.shiftDown(b, shiftCount(a), 0, to); break;
                case Instructions.SIGNED_SHIFT_DOWN: shiftDownSigned(a, b, to); break;
                default: Words.makeZero(to); break;
            }
        }

        private void multiply(int[] a, int[] b, int[] to) {
            Words.multiply(a, b, product);
            Words.copy(product, to);
        }

        private void divide(int[] a, int[] b, int[] to) {
            divider.setDividend(a);
            divider.divideBy(b);
            Words.copy(divider.quotient, to);
        }

        private void findRest(int[] a, int[] b, int[] to) {
            divider.setDividend(a);
            divider.divideBy(b);
            Words.copy(divider.rest, to);
        }

        /** Divides the signed words without their signs. */
        private void divideSizes(int[] a, int[] b) {
            Words.copyOrNegate(a, Words.isNegative(a), dividendSize);
            Words.copyOrNegate(b, Words.isNegative(b), divisorSize);
            divider.setDividend(dividendSize);
            divider.divideBy(divisorSize);
        }

        private void findRestOfSum(int[] a, int[] b, int[] c, int[] to) {
            divider.setDividendToSum(a, b);
            divider.divideBy(c);
            Words.copy(divider.rest, to);
        }

        private void findRestOfProduct(int[] a, int[] b, int[] c, int[] to) {
            Words.multiply(a, b, divider.dividend);
            divider.divideBy(c);
            Words.copy(divider.rest, to);
        }

        private static void extendSign(int[] a, int[] b, int[] to) {
            int lowestBytes = Words.atMost(a, Words.BYTES - 1);
            Words.extendSign(b, 8 * lowestBytes + 7, to);
        }

        private static int shiftCount(int[] a) {
            return Words.atMost(a, Words.BITS);
        }

        private static void shiftDownSigned(int[] a, int[] b, int[] to) {
            Words.shiftDown(b, shiftCount(a), Words.isNegative(b) ? -1 : 0, to);
        }
    }

    /** The stack of a run. What is asked of words that are not there changes nothing. */
    private static final class Stack {
        static final int MOST_WORDS = 16;

        private final int[][] words = new int[MOST_WORDS][Words.PARTS];
        private final int[] exchanged = new int[Words.PARTS];
        private int count = 0;

        void empty() {
            count = 0;
        }

        int count() {
            return count;
        }

        boolean put(int[] word) {
            if (count >= MOST_WORDS) {
                return false;
            }
            Words.copy(word, words[count]);
            count++;
            return true;
        }

        void drop(int many) {
            count = Math.max(0, count - many);
        }

        /** Copies the word k below the topmost, or 0 when there is none. */
        void look(int k, int[] to) {
            if (isThere(k)) {
                Words.copy(words[count - 1 - k], to);
            } else {
                Words.makeZero(to);
            }
        }

        int partAt(int k, int p) {
            return isThere(k) && p >= 0 && p < Words.PARTS ? words[count - 1 - k][p] : 0;
        }

        void repeat(int k) {
            if (isThere(k)) {
                put(words[count - 1 - k]);
            }
        }

        void exchange(int k) {
            if (isThere(k)) {
                Words.copy(words[count - 1], exchanged);
                Words.copy(words[count - 1 - k], words[count - 1]);
                Words.copy(exchanged, words[count - 1 - k]);
            }
        }

        private boolean isThere(int k) {
            return k >= 0 && k < count;
        }
    }

    /** The memory of a run. */
    private static final class Store {
        static final int MOST_BYTES = 160;
        private static final int STRIDE = 32;

        private final int[] bytes = new int[MOST_BYTES];
        private int size = 0;

        void empty() {
            Arrays.fill(bytes, 0);
            size = 0;
        }

        int size() {
            return size;
        }

        /** How many steps of 32 bytes the size grows by when that many bytes from 0 on are used. */
        int growth(int used) {
            int needed = (used + STRIDE - 1) / STRIDE;
            return Math.max(0, needed - size / STRIDE);
        }

        void growFor(int used) {
            size += STRIDE * growth(used);
        }

        int byteAt(int at) {
            return isInside(at) ? bytes[at] : -1;
        }

        void setByteAt(int at, int b) {
            if (isInside(at)) {
                bytes[at] = b;
            }
        }

        void load(int at, int[] to) {
            Words.makeZero(to);
            for (int k = 0; k < Words.BYTES; k++) {
                if (isInside(at + k)) {
                    Words.setByte(to, k, bytes[at + k]);
                }
            }
        }

        void save(int at, int[] word) {
            for (int k = 0; k < Words.BYTES; k++) {
                setByteAt(at + k, Words.byteOf(word, k));
            }
        }

        private static boolean isInside(int at) {
            return at >= 0 && at < MOST_BYTES;
        }
    }

    /** A run: its stack, memory, gas and counter, and how it ended. */
    private static final class Run {
        private static final int GOES_ON = 0;
        private static final int STOPPED = 1;
        private static final int RETURNED = 2;
        private static final int BAD_JUMP = 3;
        private static final int TOO_LITTLE_GAS = 4;
        private static final int TOO_FEW_WORDS = 5;
        private static final int TOO_MANY_WORDS = 6;
        private static final int UNDEFINED = 7;
        private static final int BEYOND_MEMORY = 8;
        private static final int GROWTH_COST = 3;

        private final Stack stack = new Stack();
        private final Store store = new Store();
        private final Calculator calculator = new Calculator();
        private final int[] a = new int[Words.PARTS];
        private final int[] b = new int[Words.PARTS];
        private final int[] c = new int[Words.PARTS];
        private final int[] result = new int[Words.PARTS];
        private boolean started = false;
        private int gas = 0;
        private int counter = 0;
        private int ending = GOES_ON;
        private int returnedFrom = 0;
        private int returnedCount = 0;

        void forget() {
            begin(0);
            started = false;
        }

        void begin(int gasAtFirst) {
            started = true;
            gas = gasAtFirst;
            counter = 0;
            ending = GOES_ON;
            returnedFrom = 0;
            returnedCount = 0;
            stack.empty();
            store.empty();
        }

        boolean isStarted() {
            return started;
        }

        int ending() {
            return ending;
        }

        int words() {
            return stack.count();
        }

        int partOfWord(int k, int p) {
            return stack.partAt(k, p);
        }

        boolean putWord(int top, int fill, int high, int low) {
            if (!started || ending != GOES_ON) {
                return false;
            }
            Arrays.fill(result, fill);
            result[Words.PARTS - 1] = top;
            result[1] = high;
            result[0] = low;
            return stack.put(result);
        }

        int memoryByte(int k) {
            return store.byteAt(k);
        }

        int returnedByte(int k) {
            return k >= 0 && k < returnedCount ? store.byteAt(returnedFrom + k) : -1;
        }

        int figure(int what) {
            switch (what) {
                case 0: return gas;
                case 1: return counter;
                case 2: return store.size();
                case 3: return returnedCount;
                default: return -1;
            }
        }

        /** Does one step: whether it was done and did not end the run. */
        boolean step(Program program) {
            if (ending != GOES_ON) {
                return false;
            }
            int op = program.byteAt(counter);
            stack.look(0, a);
            stack.look(1, b);
            stack.look(2, c);
            int fault = findFault(program, op);
            if (fault != GOES_ON) {
                fail(fault);
                return false;
            }
            pay(op);
            if (Instructions.isLast(op)) {
                finish(op);
                return false;
            }
            perform(program, op);
            return true;
        }

        private void fail(int fault) {
            ending = fault;
            if (fault == TOO_LITTLE_GAS) {
                gas = 0;
            }
        }

        /** The first of the faults that keep an instruction from being done. */
        private int findFault(Program program, int op) {
            if (!Instructions.isDefined(op)) {
                return UNDEFINED;
            }
            int deeper = stack.count() - Instructions.wordsNeeded(op);
            if (deeper < 0) {
                return TOO_FEW_WORDS;
            }
            if (deeper + Instructions.wordsLeft(op) > Stack.MOST_WORDS) {
                return TOO_MANY_WORDS;
            }
            if (bytesUsed(op) > Store.MOST_BYTES) {
                return BEYOND_MEMORY;
            }
            if (fullCost(op) > gas) {
                return TOO_LITTLE_GAS;
            }
            return jumps(op) && !program.mayJumpTo(Program.asPlace(a)) ? BAD_JUMP : GOES_ON;
        }

        /** How many bytes the memory has up to the last one that an instruction uses; 0 when it uses none. */
        private int bytesUsed(int op) {
            int from = asMemory(a);
            switch (op) {
                case Instructions.LOAD: case Instructions.SAVE:
                    return from + Words.BYTES;
                case Instructions.SAVE_BYTE:
                    return from + 1;
                case Instructions.RETURN:
                    return Words.isZero(b) ? 0 : from + asMemory(b);
                default:
                    return 0;
            }
        }

        /** A word as a place or a count of bytes of the memory; one that is too great stays too great. */
        private static int asMemory(int[] word) {
            return Words.atMost(word, Store.MOST_BYTES + 1);
        }

        private int fullCost(int op) {
            return Instructions.cost(op) + GROWTH_COST * store.growth(bytesUsed(op));
        }

        private boolean jumps(int op) {
            return op == Instructions.JUMP || op == Instructions.JUMP_IF && !Words.isZero(b);
        }

        private void pay(int op) {
            gas -= fullCost(op);
            store.growFor(bytesUsed(op));
        }

        private void finish(int op) {
            ending = STOPPED;
            if (op == Instructions.RETURN) {
                ending = RETURNED;
                returnedFrom = asMemory(a);
                returnedCount = asMemory(b);
                stack.drop(Instructions.wordsNeeded(op));
            }
        }

        private void perform(Program program, int op) {
            int place = counter;
            counter = program.placeBehind(place);
            if (op >= Instructions.FIRST_EXCHANGE) {
                stack.exchange(op - Instructions.FIRST_EXCHANGE + 1);
            } else if (op >= Instructions.FIRST_REPEAT) {
                stack.repeat(op - Instructions.FIRST_REPEAT);
            } else if (op >= Instructions.FIRST_NUMBER) {
                program.readNumber(place, result);
                stack.put(result);
            } else if (op >= Instructions.BEHIND_COMPUTING) {
                stack.drop(Instructions.wordsNeeded(op));
                useMachine(op, place);
            } else {
                stack.drop(Instructions.wordsNeeded(op));
                calculator.compute(op, a, b, c, result);
                stack.put(result);
            }
        }

        /** Does the instructions that are about the memory, the counter and the gas. */
        private void useMachine(int op, int place) {
            switch (op) {
                case Instructions.LOAD: giveLoaded(); break;
                case Instructions.SAVE: store.save(asMemory(a), b); break;
                case Instructions.SAVE_BYTE: store.setByteAt(asMemory(a), b[0] & 255); break;
                case Instructions.JUMP: counter = Program.asPlace(a); break;
                case Instructions.JUMP_IF: jumpIf(); break;
                case Instructions.PLACE: giveNumber(place); break;
                case Instructions.SIZE: giveNumber(store.size()); break;
                case Instructions.GAS: giveNumber(gas); break;
                default: break;
            }
        }

        private void giveLoaded() {
            store.load(asMemory(a), result);
            stack.put(result);
        }

        private void giveNumber(int value) {
            Words.setNumber(result, value);
            stack.put(result);
        }

        private void jumpIf() {
            if (!Words.isZero(b)) {
                counter = Program.asPlace(a);
            }
        }
    }

    /** Finds with which heights of the stack the places of a code are reached. */
    private static final class Analyser {
        private static final int ACCEPTED = 0;
        private static final int UNDEFINED = 1;
        private static final int BAD_HEIGHT = 2;
        private static final int JUMP_WITHOUT_NUMBER = 3;
        private static final int BAD_JUMP = 4;
        private static final int TWO_HEIGHTS = 5;
        private static final int NOT_REACHED = -1;

        /** The code's last byte may want a number of 32 bytes, and the place behind that is reached. */
        private static final int PLACES = Program.MOST_BYTES + Words.BYTES + 1;

        private final int[] heights = new int[PLACES];
        private final boolean[] looked = new boolean[PLACES];
        private final int[] number = new int[Words.PARTS];

        Analyser() {
            Arrays.fill(heights, NOT_REACHED);
        }

        void forget() {
            for (int place = 0; place < PLACES; place++) {
                heights[place] = NOT_REACHED;
                looked[place] = false;
            }
        }

        int heightAt(int place) {
            return place >= 0 && place < PLACES ? heights[place] : NOT_REACHED;
        }

        int judge(Program program) {
            forget();
            heights[0] = 0;
            for (int round = 0; round < PLACES; round++) {
                int place = leastToLookAt();
                if (place == Program.NO_PLACE) {
                    return ACCEPTED;
                }
                looked[place] = true;
                int reason = lookAt(program, place);
                if (reason != ACCEPTED) {
                    return 8 * place + reason;
                }
            }
            return ACCEPTED;
        }

        private int leastToLookAt() {
            for (int place = 0; place < PLACES; place++) {
                if (heights[place] != NOT_REACHED && !looked[place]) {
                    return place;
                }
            }
            return Program.NO_PLACE;
        }

        private int lookAt(Program program, int place) {
            int op = program.byteAt(place);
            if (!Instructions.isDefined(op)) {
                return UNDEFINED;
            }
            int deeper = heights[place] - Instructions.wordsNeeded(op);
            int heightBehind = deeper + Instructions.wordsLeft(op);
            if (deeper < 0 || heightBehind > Stack.MOST_WORDS) {
                return BAD_HEIGHT;
            }
            if (Instructions.isJump(op)) {
                return lookAtJump(program, place, heightBehind);
            }
            if (Instructions.isLast(op)) {
                return ACCEPTED;
            }
            return reach(program.placeBehind(place), heightBehind) ? ACCEPTED : TWO_HEIGHTS;
        }

        private int lookAtJump(Program program, int place, int heightBehind) {
            int before = program.placeBefore(place);
            if (before == Program.NO_PLACE || Instructions.numberLength(program.byteAt(before)) == 0) {
                return JUMP_WITHOUT_NUMBER;
            }
            program.readNumber(before, number);
            int target = Program.asPlace(number);
            if (!program.mayJumpTo(target)) {
                return BAD_JUMP;
            }
            boolean falls = program.byteAt(place) == Instructions.JUMP_IF;
            if (falls && !reach(program.placeBehind(place), heightBehind)) {
                return TWO_HEIGHTS;
            }
            return reach(target, heightBehind) ? ACCEPTED : TWO_HEIGHTS;
        }

        /** Reaches a place; false when it was reached before with another height. */
        private boolean reach(int place, int height) {
            if (place < 0 || place >= PLACES) {
                return true;
            }
            if (heights[place] == NOT_REACHED) {
                heights[place] = height;
            }
            return heights[place] == height;
        }
    }
}
