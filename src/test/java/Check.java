import java.util.Arrays;

/** Compares answers with those that are due, and ends a test. */
final class Check {
    private final String name;
    private int asked = 0;
    private int wrong = 0;

    Check(String name) {
        this.name = name;
    }

    void due(String call, Object got, Object want) {
        asked++;
        if (!got.equals(want)) {
            wrong++;
            System.out.println(name + ": " + call + " answered " + got + ", due is " + want);
        }
    }

    /** Prints the outcome and leaves with exit code 1 when an answer was wrong. */
    void finish() {
        System.out.println(name + ": " + asked + " answers, " + wrong + " wrong");
        if (wrong != 0 || asked == 0) {
            System.exit(1);
        }
    }

    /** An object with the code given. */
    static WideStack with(int... code) {
        WideStack x = new WideStack();
        append(x, code);
        return x;
    }

    static void append(WideStack x, int... code) {
        for (int b : code) {
            if (!x.code(b)) {
                throw new IllegalStateException("code refused " + b);
            }
        }
    }

    /** Codes, one behind the other. */
    static int[] join(int[]... codes) {
        int[] all = new int[0];
        for (int[] code : codes) {
            int old = all.length;
            all = Arrays.copyOf(all, old + code.length);
            System.arraycopy(code, 0, all, old, code.length);
        }
        return all;
    }

    /** The same byte many times. */
    static int[] times(int count, int b) {
        int[] all = new int[count];
        Arrays.fill(all, b);
        return all;
    }

    /** The parts of a word below the topmost, the highest first, as hexadecimal digits. */
    static String word(WideStack x, int k) {
        StringBuilder text = new StringBuilder();
        for (int p = 7; p >= 0; p--) {
            text.append(String.format("%08x", x.part(k, p)));
        }
        return text.toString();
    }
}
