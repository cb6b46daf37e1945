import java.math.BigInteger;
import java.util.ArrayList;
import java.util.List;

/** What the computing instructions 01 to 1Dh give, for the edges of words and for others. */
public final class WordTest {
    private static final Check CHECK = new Check("WordTest");
    private static final int[] OPS = {
        1, 2, 3, 4, 5, 6, 7, 8, 9, 0x0B, 0x10, 0x11, 0x12, 0x13, 0x14, 0x15, 0x16, 0x17, 0x18, 0x19, 0x1A, 0x1B, 0x1C,
        0x1D
    };
    /** Third words as push makes them: top, fill, high, low. */
    private static final int[][] THIRDS = {
        {0, 0, 0, 0}, {0, 0, 0, 1}, {0, 0, 0, 7}, {0, 0, 1, 0}, {-1, -1, -1, -1}, {-1, -1, -1, -2},
        {Integer.MIN_VALUE, 0, 0, 0}, {Integer.MIN_VALUE, 0, 0, 3}, {0, 0x12345678, 9, -7}, {0x7FFFFFFF, -1, -1, -1}
    };

    public static void main(String[] args) {
        checkWritten();
        List<BigInteger> words = edges();
        int third = 0;
        for (BigInteger a : words) {
            for (BigInteger b : words) {
                for (int op : OPS) {
                    third = (third + 1) % THIRDS.length;
                    checkOne(op, a, b, THIRDS[third]);
                }
            }
        }
        checkRestsByAllThirds(words);
        checkOneBehindAnother();
        CHECK.finish();
    }

    private static List<BigInteger> edges() {
        List<BigInteger> words = new ArrayList<>();
        for (int small : new int[] {0, 1, 2, 3, 7, 15, 30, 31, 32, 33, 127, 128, 224, 255, 256, 257}) {
            words.add(BigInteger.valueOf(small));
        }
        for (int bit : new int[] {31, 32, 63, 64, 128, 240, 248, 255}) {
            words.add(BigInteger.ONE.shiftLeft(bit));
            words.add(BigInteger.ONE.shiftLeft(bit).subtract(BigInteger.ONE));
        }
        for (int less : new int[] {1, 2, 3, 7, 256}) {
            words.add(Model.RANGE.subtract(BigInteger.valueOf(less)));
        }
        words.add(new BigInteger("80818283f4f5f6f708090a0b8c8d8e8f101112139495969718191a1b9c9d9e9f", 16));
        words.add(new BigInteger("00000000000000017fffffffffffffff8000000000000000fedcba9876543210", 16));
        return words;
    }

    private static void checkRestsByAllThirds(List<BigInteger> words) {
        for (int[] c : THIRDS) {
            for (int i = 0; i < words.size(); i++) {
                BigInteger b = words.get(words.size() - 1 - i / 2);
                checkOne(0x08, words.get(i), b, c);
                checkOne(0x09, words.get(i), b, c);
            }
        }
    }

    /** Each instruction behind each other one on the same object: the first must leave nothing to the second. */
    private static void checkOneBehindAnother() {
        for (int first : OPS) {
            for (int second : OPS) {
                WideStack x = Check.with(first, second);
                x.start(100);
                for (int i = 0; i < 4; i++) {
                    x.push(3 * i - 4, -i, i * i, -1 - i);
                }
                for (int i = 0; i < 3; i++) {
                    x.push(-1, -1, -1, -9 + i);
                }
                for (int op : new int[] {first, second}) {
                    BigInteger due = Model.value(op, wordOf(x, 0), wordOf(x, 1), wordOf(x, 2));
                    String call = Integer.toHexString(first) + ", " + Integer.toHexString(second);
                    CHECK.due(call, x.run(1), 1);
                    CHECK.due(call, wordOf(x, 0), due);
                }
            }
        }
    }

    private static BigInteger wordOf(WideStack x, int k) {
        return new BigInteger(Check.word(x, k), 16);
    }

    private static void checkOne(int op, BigInteger a, BigInteger b, int[] c) {
        WideStack x = new WideStack();
        appendNumber(x, b);
        appendNumber(x, a);
        x.code(op);
        x.start(100);
        x.push(c[0], c[1], c[2], c[3]);
        x.run(2);
        BigInteger third = wordOf(x, 2);
        String call = Integer.toHexString(op) + " of " + a.toString(16) + ", " + b.toString(16) + ", "
            + third.toString(16);
        CHECK.due(call + " steps", x.run(1), 1);
        String due = String.format("%064x", Model.value(op, a, b, third));
        CHECK.due(call, Check.word(x, 0), due);
    }

    private static void appendNumber(WideStack x, BigInteger word) {
        x.code(0x7F);
        for (int shift = 248; shift >= 0; shift -= 8) {
            x.code(word.shiftRight(shift).intValue() & 255);
        }
    }

    /** Some answers written by hand from the document, so that the model is not the only witness. */
    private static void checkWritten() {
        int[] minusSeven = {-1, -1, -1, -7};
        int[] two = {0, 0, 0, 2};
        int[] least = {Integer.MIN_VALUE, 0, 0, 0};
        int[] minusOne = {-1, -1, -1, -1};
        int[] zero = {0, 0, 0, 0};
        written(0x01, zero, two, minusOne, 0, 1);
        written(0x03, zero, minusOne, two, 0, 3);
        written(0x03, zero, two, zero, -1, -2);
        written(0x04, zero, two, minusSeven, 0x7FFFFFFF, -4);
        written(0x04, zero, zero, two, 0, 0);
        written(0x05, zero, two, minusSeven, -1, -3);
        written(0x05, zero, minusSeven, two, 0, 0);
        written(0x05, zero, minusOne, least, Integer.MIN_VALUE, 0);
        written(0x05, zero, zero, minusSeven, 0, 0);
        written(0x06, zero, two, minusSeven, 0, 1);
        written(0x06, zero, zero, minusSeven, 0, 0);
        written(0x07, zero, two, minusSeven, -1, -1);
        written(0x07, zero, minusSeven, two, 0, 2);
        written(0x07, zero, minusOne, least, 0, 0);
        written(0x07, zero, zero, minusSeven, 0, 0);
        written(0x08, minusOne, two, minusOne, 0, 2);
        written(0x08, zero, two, two, 0, 0);
        written(0x09, minusOne, minusSeven, minusOne, 0, 0);
        written(0x09, minusSeven, minusOne, minusOne, 0, 36);
        written(0x09, zero, two, two, 0, 0);
        written(0x0B, zero, new int[] {0, 0, 0, 0x80}, zero, -1, -128);
        written(0x0B, zero, new int[] {5, 5, 5, 0x17F}, zero, 0, 0x7F);
        written(0x0B, zero, new int[] {0x1234567, 0, 0, 0}, new int[] {0, 0, 0, 31}, 0x1234567, 0);
        written(0x0B, zero, new int[] {0x00800000, 0, 0, 9}, new int[] {0, 0, 0, 30}, 0xFF800000, 9);
        written(0x10, zero, minusOne, two, 0, 1);
        written(0x11, zero, minusOne, two, 0, 0);
        written(0x12, zero, minusOne, two, 0, 0);
        written(0x13, zero, minusOne, two, 0, 1);
        written(0x1A, zero, new int[] {0x11223344, 0, 0, 0x55}, zero, 0, 0x11);
        written(0x1A, zero, new int[] {0x11223344, 0, 0, 0x55}, new int[] {0, 0, 0, 31}, 0, 0x55);
        written(0x1A, zero, minusOne, new int[] {0, 0, 0, 32}, 0, 0);
        written(0x1A, zero, minusOne, new int[] {0, 0, 1, 0}, 0, 0);
        written(0x1B, zero, minusOne, new int[] {0, 0, 0, 255}, Integer.MIN_VALUE, 0);
        written(0x1B, zero, minusOne, new int[] {0, 0, 0, 256}, 0, 0);
        written(0x1B, zero, minusOne, new int[] {0, 0, 1, 0}, 0, 0);
        written(0x1C, zero, least, new int[] {0, 0, 0, 255}, 0, 1);
        written(0x1C, zero, minusOne, new int[] {0, 0, 0, 256}, 0, 0);
        written(0x1D, zero, minusSeven, new int[] {0, 0, 0, 1}, -1, -4);
        written(0x1D, zero, least, new int[] {0, 0, 0, 256}, -1, -1);
        written(0x1D, zero, least, new int[] {1, 0, 0, 0}, -1, -1);
        written(0x1D, zero, two, new int[] {1, 0, 0, 0}, 0, 0);
    }

    /** Puts C, B and A onto the stack in this order and looks at parts 7 and 0 of the word given. */
    private static void written(int op, int[] c, int[] b, int[] a, int top, int low) {
        WideStack x = Check.with(op);
        x.start(100);
        for (int[] word : new int[][] {c, b, a}) {
            x.push(word[0], word[1], word[2], word[3]);
        }
        x.run(1);
        String call = Integer.toHexString(op) + " written";
        CHECK.due(call + ", part 7", x.part(0, 7), top);
        CHECK.due(call + ", part 0", x.part(0, 0), low);
    }
}
