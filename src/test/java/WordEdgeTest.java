/** Each sentence of 'Terms' that names a boundary of the words and their arithmetic, with a check of its own. */
public final class WordEdgeTest {
    private static final Check CHECK = new Check("WordEdgeTest");

    /** Words as push makes them: top, fill, high, low. */
    private static final int[] ZERO = small(0);
    private static final int[] ONE = small(1);
    private static final int[] TWO = small(2);
    private static final int[] THREE = small(3);
    private static final int[] SEVEN = small(7);
    private static final int[] ALL = minus(1);
    private static final int[] LOWEST = {Integer.MIN_VALUE, 0, 0, 0};
    private static final int[] HIGHEST = {Integer.MAX_VALUE, -1, -1, -1};
    /** Words whose lowest parts look like small numbers. */
    private static final int[][] GREAT = {{0, 0, 1, 0}, {0, 1, 0, 1}, {1, 0, 0, 0}, {Integer.MIN_VALUE, 0, 0, 1}, ALL};

    public static void main(String[] args) {
        sumsWrapAround();
        differencesWrapAround();
        productsWrapAround();
        quotientsAndRestsBy0();
        quotientsAndRestsRoundDown();
        signedQuotientsAndRestsBy0();
        signedQuotientsRoundTowards0();
        signedRestsHaveTheSignOfA();
        theSignedQuotientThatWrapsAround();
        sumsAreWholeForTheRest();
        productsAreWholeForTheRest();
        restsOfSumsAndProductsBy0();
        signsAreExtendedFromABelow31();
        fromA31OnBStays();
        equalWordsAreNeitherLessNorGreater();
        wordsAreComparedFromTheHighestPart();
        signedWordsAreBelow0FromBit255();
        zeroAloneIsZero();
        bitsAreTakenOneByOne();
        bytesAreCountedFromTheHighest();
        bytesAbove31Are0();
        shiftsUpTo255();
        shiftsAbove255();
        signedShiftsAbove255();
        CHECK.finish();
    }

    private static int[] small(int value) {
        return new int[] {0, 0, 0, value};
    }

    private static int[] minus(int value) {
        return new int[] {-1, -1, -1, -value};
    }

    private static String text(int[] word) {
        WideStack x = new WideStack();
        x.start(0);
        x.push(word[0], word[1], word[2], word[3]);
        return Check.word(x, 0);
    }

    /** What an instruction gives for A, B and C. */
    private static void gives(int op, int[] due, int[]... words) {
        WideStack x = Check.with(op);
        x.start(8);
        x.push(9, 9, 9, 9);
        StringBuilder call = new StringBuilder(Integer.toHexString(op) + " of");
        for (int i = words.length - 1; i >= 0; i--) {
            x.push(words[i][0], words[i][1], words[i][2], words[i][3]);
        }
        for (int[] word : words) {
            call.append(' ').append(text(word));
        }
        CHECK.due(call + ": steps", x.run(1), 1);
        CHECK.due(call + ": height", x.height(), 2);
        CHECK.due(call + ": word", Check.word(x, 0), text(due));
        CHECK.due(call + ": word below", Check.word(x, 1), "00000009".repeat(8));
    }

    private static void sumsWrapAround() {
        gives(0x01, ALL, ALL, ZERO);
        gives(0x01, ZERO, ALL, ONE);
        gives(0x01, ZERO, LOWEST, LOWEST);
        gives(0x01, minus(2), ALL, ALL);
        gives(0x01, LOWEST, HIGHEST, ONE);
        gives(0x01, new int[] {0, 0, 1, 0}, small(-1), ONE);
    }

    private static void differencesWrapAround() {
        gives(0x03, ALL, ZERO, ONE);
        gives(0x03, ONE, ZERO, ALL);
        gives(0x03, ZERO, ALL, ALL);
        gives(0x03, HIGHEST, LOWEST, ONE);
        gives(0x03, small(-1), new int[] {0, 0, 1, 0}, ONE);
    }

    private static void productsWrapAround() {
        gives(0x02, ONE, ALL, ALL);
        gives(0x02, ZERO, LOWEST, TWO);
        gives(0x02, LOWEST, LOWEST, THREE);
        gives(0x02, ZERO, new int[] {1, 0, 0, 0}, new int[] {0, 0, 1, 0});
        gives(0x02, new int[] {5, 0, 0, 0}, new int[] {1, 0, 0, 0}, new int[] {0, 0, 1, 5});
        gives(0x02, ZERO, ZERO, ALL);
        gives(0x02, ALL, ALL, ONE);
    }

    private static void quotientsAndRestsBy0() {
        for (int[] a : new int[][] {ZERO, ONE, LOWEST, HIGHEST, ALL}) {
            gives(0x04, ZERO, a, ZERO);
            gives(0x06, ZERO, a, ZERO);
        }
    }

    private static void quotientsAndRestsRoundDown() {
        int[][] rows = {ALL, ALL, ONE, ZERO, ALL, ONE, ALL, ZERO, ONE, ALL, ZERO, ONE, ALL, TWO, HIGHEST, ONE,
            ALL, LOWEST, ONE, HIGHEST, HIGHEST, LOWEST, ZERO, HIGHEST, minus(2), ALL, ZERO, minus(2),
            small(6), SEVEN, ZERO, small(6), SEVEN, SEVEN, ONE, ZERO, small(8), SEVEN, ONE, ONE, ZERO, ALL, ZERO, ZERO};
        for (int i = 0; i < rows.length; i += 4) {
            gives(0x04, rows[i + 2], rows[i], rows[i + 1]);
            gives(0x06, rows[i + 3], rows[i], rows[i + 1]);
        }
    }

    private static void signedQuotientsAndRestsBy0() {
        for (int[] a : new int[][] {ZERO, ONE, LOWEST, HIGHEST, ALL}) {
            gives(0x05, ZERO, a, ZERO);
            gives(0x07, ZERO, a, ZERO);
        }
    }

    private static void signedQuotientsRoundTowards0() {
        gives(0x05, THREE, SEVEN, TWO);
        gives(0x05, minus(3), minus(7), TWO);
        gives(0x05, minus(3), SEVEN, minus(2));
        gives(0x05, THREE, minus(7), minus(2));
        gives(0x05, ZERO, ALL, TWO);
        gives(0x05, ZERO, ONE, minus(2));
        gives(0x05, ZERO, HIGHEST, LOWEST);
        gives(0x05, ALL, LOWEST, HIGHEST);
        gives(0x05, ONE, LOWEST, LOWEST);
    }

    private static void signedRestsHaveTheSignOfA() {
        gives(0x07, ONE, SEVEN, TWO);
        gives(0x07, ONE, SEVEN, minus(2));
        gives(0x07, ALL, minus(7), TWO);
        gives(0x07, ALL, minus(7), minus(2));
        gives(0x07, ZERO, minus(7), SEVEN);
        gives(0x07, ALL, LOWEST, HIGHEST);
        gives(0x07, HIGHEST, HIGHEST, LOWEST);
        gives(0x07, ZERO, LOWEST, LOWEST);
    }

    private static void theSignedQuotientThatWrapsAround() {
        gives(0x05, LOWEST, LOWEST, ALL);
        gives(0x07, ZERO, LOWEST, ALL);
        gives(0x05, LOWEST, LOWEST, ONE);
        gives(0x05, new int[] {Integer.MIN_VALUE, 0, 0, 1}, HIGHEST, ALL);
    }

    private static void sumsAreWholeForTheRest() {
        // 2^256 leaves 1 by 3 and by 2^256 - 1; a sum that wrapped around would leave 0.
        gives(0x08, ONE, ALL, ONE, THREE);
        gives(0x08, ONE, LOWEST, LOWEST, ALL);
        gives(0x08, minus(2), ALL, minus(2), ALL);
        gives(0x08, ZERO, ALL, ALL, ALL);
        gives(0x08, ZERO, HIGHEST, LOWEST, ALL);
        gives(0x08, minus(2), HIGHEST, HIGHEST, ALL);
        gives(0x08, ZERO, ALL, ALL, ONE);
        gives(0x08, ZERO, ALL, ALL, TWO);
    }

    private static void productsAreWholeForTheRest() {
        gives(0x09, ZERO, ALL, ALL, ALL);
        gives(0x09, ONE, ALL, ALL, minus(2));
        // 2^256 leaves 1 by 3 and by 2^256 - 1, and 7 by 2^256 - 7.
        gives(0x09, ONE, LOWEST, TWO, THREE);
        gives(0x09, ONE, LOWEST, TWO, ALL);
        gives(0x09, SEVEN, LOWEST, TWO, minus(7));
        gives(0x09, ZERO, LOWEST, LOWEST, LOWEST);
        gives(0x09, ZERO, ALL, ALL, ONE);
        gives(0x09, ONE, ALL, ALL, TWO);
    }

    private static void restsOfSumsAndProductsBy0() {
        for (int[] a : new int[][] {ZERO, ONE, LOWEST, ALL}) {
            gives(0x08, ZERO, a, ALL, ZERO);
            gives(0x09, ZERO, a, ALL, ZERO);
        }
    }

    private static void signsAreExtendedFromABelow31() {
        gives(0x0B, minus(128), ZERO, small(0x80));
        gives(0x0B, small(0x7F), ZERO, new int[] {-1, -1, -1, 0xFFFFFF7F});
        gives(0x0B, minus(0x8000), ONE, small(0x8000));
        gives(0x0B, small(0x80), ONE, small(0x80));
        gives(0x0B, new int[] {-1, -1, -1, Integer.MIN_VALUE}, THREE, small(Integer.MIN_VALUE));
        gives(0x0B, small(Integer.MAX_VALUE), THREE, new int[] {5, 5, 5, Integer.MAX_VALUE});
        gives(0x0B, new int[] {0xFF800000, 3, 2, 1}, small(30), new int[] {0x00800000, 3, 2, 1});
        gives(0x0B, new int[] {0x007FFFFF, 3, 2, 1}, small(30), new int[] {0xFF7FFFFF, 3, 2, 1});
    }

    private static void fromA31OnBStays() {
        int[][] counts = {small(31), small(32), small(255), small(256), small(-1)};
        for (int[] b : new int[][] {small(0x80), LOWEST, HIGHEST, {0x00800000, 3, 2, 1}}) {
            for (int[] a : counts) {
                gives(0x0B, b, a, b);
            }
            for (int[] a : GREAT) {
                gives(0x0B, b, a, b);
            }
        }
    }

    private static void equalWordsAreNeitherLessNorGreater() {
        for (int[] a : new int[][] {ZERO, ONE, LOWEST, HIGHEST, ALL}) {
            for (int op = 0x10; op <= 0x13; op++) {
                gives(op, ZERO, a, a);
            }
            gives(0x14, ONE, a, a);
        }
    }

    private static void wordsAreComparedFromTheHighestPart() {
        int[][] ordered = {ZERO, ONE, small(Integer.MAX_VALUE), small(Integer.MIN_VALUE), small(-1), {0, 0, 1, 0},
            {0, 0, -1, 0}, {0, 1, 0, 0}, {0, -1, -1, 0}, {1, 0, 0, 0}, HIGHEST, LOWEST, minus(2), ALL};
        for (int i = 0; i < ordered.length; i++) {
            for (int j = 0; j < ordered.length; j++) {
                gives(0x10, i < j ? ONE : ZERO, ordered[i], ordered[j]);
                gives(0x11, i > j ? ONE : ZERO, ordered[i], ordered[j]);
                gives(0x14, i == j ? ONE : ZERO, ordered[i], ordered[j]);
            }
        }
    }

    private static void signedWordsAreBelow0FromBit255() {
        int[][] ordered = {LOWEST, {Integer.MIN_VALUE, 0, 0, 1}, {-1, 0, 0, 0}, minus(2), ALL, ZERO, ONE, small(-1),
            {1, 0, 0, 0}, HIGHEST};
        for (int i = 0; i < ordered.length; i++) {
            for (int j = 0; j < ordered.length; j++) {
                gives(0x12, i < j ? ONE : ZERO, ordered[i], ordered[j]);
                gives(0x13, i > j ? ONE : ZERO, ordered[i], ordered[j]);
            }
        }
    }

    private static void zeroAloneIsZero() {
        gives(0x15, ONE, ZERO);
        gives(0x15, ZERO, ONE);
        gives(0x15, ZERO, LOWEST);
        for (int[] a : GREAT) {
            gives(0x15, ZERO, a);
        }
    }

    private static void bitsAreTakenOneByOne() {
        int[] a = {0xF0F0F0F0, 0x0F0F0F0F, 0x33333333, 0xCCCCCCCC};
        int[] b = {0xFF00FF00, 0x00FF00FF, 0x55555555, 0xAAAAAAAA};
        gives(0x16, new int[] {0xF000F000, 0x000F000F, 0x11111111, 0x88888888}, a, b);
        gives(0x17, new int[] {0xFFF0FFF0, 0x0FFF0FFF, 0x77777777, 0xEEEEEEEE}, a, b);
        gives(0x18, new int[] {0x0FF00FF0, 0x0FF00FF0, 0x66666666, 0x66666666}, a, b);
        gives(0x19, new int[] {0x0F0F0F0F, 0xF0F0F0F0, 0xCCCCCCCC, 0x33333333}, a);
        gives(0x19, ALL, ZERO);
        gives(0x19, ZERO, ALL);
    }

    private static void bytesAreCountedFromTheHighest() {
        int[] b = {0x81828384, 0x91929394, 0xA1A2A3A4, 0xB1B2B3B4};
        int[] parts = {b[0], b[1], b[1], b[1], b[1], b[1], b[2], b[3]};
        for (int k = 0; k < 32; k++) {
            gives(0x1A, small(parts[k / 4] >>> 24 - 8 * (k % 4) & 255), small(k), b);
        }
    }

    private static void bytesAbove31Are0() {
        for (int a : new int[] {32, 33, 63, 64, 255, 256, Integer.MAX_VALUE, Integer.MIN_VALUE, -1}) {
            gives(0x1A, ZERO, small(a), ALL);
        }
        for (int[] a : GREAT) {
            gives(0x1A, ZERO, a, ALL);
        }
    }

    private static void shiftsUpTo255() {
        for (int op = 0x1B; op <= 0x1D; op++) {
            gives(op, LOWEST, ZERO, LOWEST);
            gives(op, new int[] {7, 6, 5, 4}, ZERO, new int[] {7, 6, 5, 4});
        }
        gives(0x1B, LOWEST, small(255), ALL);
        gives(0x1B, ZERO, small(255), minus(2));
        gives(0x1B, minus(2), ONE, ALL);
        gives(0x1B, new int[] {-1, -1, -1, 0}, small(32), ALL);
        gives(0x1C, ONE, small(255), ALL);
        gives(0x1C, ZERO, small(255), HIGHEST);
        gives(0x1C, HIGHEST, ONE, ALL);
        gives(0x1C, new int[] {0, -1, -1, -1}, small(32), ALL);
        gives(0x1D, ALL, small(255), LOWEST);
        gives(0x1D, ZERO, small(255), HIGHEST);
        gives(0x1D, new int[] {0xC0000000, 0, 0, 0}, ONE, LOWEST);
        gives(0x1D, new int[] {0x3FFFFFFF, -1, -1, -1}, ONE, HIGHEST);
    }

    private static void shiftsAbove255() {
        for (int a : new int[] {256, 257, 288, 512, Integer.MAX_VALUE, Integer.MIN_VALUE, -1}) {
            gives(0x1B, ZERO, small(a), ALL);
            gives(0x1C, ZERO, small(a), ALL);
        }
        for (int[] a : GREAT) {
            gives(0x1B, ZERO, a, ALL);
            gives(0x1C, ZERO, a, ALL);
        }
    }

    private static void signedShiftsAbove255() {
        for (int a : new int[] {256, 257, 288, 512, Integer.MAX_VALUE, Integer.MIN_VALUE, -1}) {
            gives(0x1D, ALL, small(a), LOWEST);
            gives(0x1D, ZERO, small(a), HIGHEST);
        }
        for (int[] a : GREAT) {
            gives(0x1D, ALL, a, LOWEST);
            gives(0x1D, ZERO, a, HIGHEST);
        }
    }
}
