import java.math.BigInteger;
import java.util.ArrayList;
import java.util.HashMap;
import java.util.List;
import java.util.Map;
import java.util.TreeSet;

/** The document once more, written from its words with BigInteger, to compare WideStack with. */
final class Model {
    static final BigInteger RANGE = BigInteger.ONE.shiftLeft(256);
    private static final BigInteger ZERO = BigInteger.ZERO;

    private final List<Integer> bytes = new ArrayList<>();
    private final List<BigInteger> stack = new ArrayList<>();
    private final Map<Integer, Integer> heights = new HashMap<>();
    private int[] mem = new int[160];
    private int[] returned = null;
    private boolean started = false;
    private int gas;
    private int counter;
    private int size;
    private int how;

    boolean code(int b) {
        if (bytes.size() == 96 || b < 0 || b > 255) {
            return false;
        }
        return bytes.add(b);
    }

    void clear() {
        bytes.clear();
        stack.clear();
        heights.clear();
        started = false;
    }

    boolean start(int g) {
        if (g < 0 || g > 9999) {
            return false;
        }
        started = true;
        gas = g;
        counter = 0;
        size = 0;
        how = 0;
        mem = new int[160];
        returned = null;
        stack.clear();
        return true;
    }

    boolean push(int top, int fill, int high, int low) {
        if (!started || how != 0 || stack.size() == 16) {
            return false;
        }
        BigInteger word = ZERO;
        int[] parts = {top, fill, fill, fill, fill, fill, high, low};
        for (int part : parts) {
            word = word.shiftLeft(32).add(BigInteger.valueOf(Integer.toUnsignedLong(part)));
        }
        return stack.add(word);
    }

    int run(int n) {
        if (!started || n < 1 || n > 500) {
            return -1;
        }
        int done = 0;
        while (done < n && how == 0) {
            step();
            if (how == 0) {
                done++;
            }
        }
        return done;
    }

    int ended() {
        return started ? how : -1;
    }

    int height() {
        return started ? stack.size() : 0;
    }

    int part(int k, int p) {
        if (!started || k < 0 || k >= stack.size() || p < 0 || p > 7) {
            return 0;
        }
        return below(k).shiftRight(32 * p).intValue();
    }

    int memory(int k, boolean ofReturned) {
        int[] row = ofReturned ? returned : mem;
        return !started || row == null || k < 0 || k >= row.length ? -1 : row[k];
    }

    int state(int what) {
        if (!started || what < 0 || what > 3) {
            return -1;
        }
        return new int[] {gas, counter, size, returned == null ? 0 : returned.length}[what];
    }

    boolean marked(int place) {
        return instructionPlaces().contains(place) && place < bytes.size() && bytes.get(place) == 0x5B;
    }

    int reached(int place) {
        return heights.getOrDefault(place, -1);
    }

    int analyse() {
        heights.clear();
        TreeSet<Integer> waiting = new TreeSet<>();
        heights.put(0, 0);
        waiting.add(0);
        while (!waiting.isEmpty()) {
            int place = waiting.pollFirst();
            int reason = look(place, waiting);
            if (reason != 0) {
                return 8 * place + reason;
            }
        }
        return 0;
    }

    private int look(int place, TreeSet<Integer> waiting) {
        int op = at(place);
        int height = heights.get(place);
        if (takes(op) < 0) {
            return 1;
        }
        if (takes(op) > height || height - takes(op) + gives(op) > 16) {
            return 2;
        }
        List<Integer> next = new ArrayList<>();
        if (op == 0x56 || op == 0x57) {
            Integer before = instructionPlaces().lower(place);
            if (before == null || at(before) < 0x60 || at(before) > 0x7F) {
                return 3;
            }
            BigInteger target = numberAt(before);
            if (!mayGo(target)) {
                return 4;
            }
            if (op == 0x57) {
                next.add(place + 1);
            }
            next.add(target.intValue());
        } else if (op != 0 && op != 0xF3) {
            next.add(place + length(op));
        }
        for (int one : next) {
            Integer old = heights.putIfAbsent(one, height - takes(op) + gives(op));
            if (old == null) {
                waiting.add(one);
            } else if (old != height - takes(op) + gives(op)) {
                return 5;
            }
        }
        return 0;
    }

    private int at(int place) {
        return place < bytes.size() ? bytes.get(place) : 0;
    }

    private static int length(int op) {
        return op >= 0x60 && op <= 0x7F ? op - 0x5E : 1;
    }

    private TreeSet<Integer> instructionPlaces() {
        TreeSet<Integer> places = new TreeSet<>();
        for (int place = 0; place < bytes.size(); place += length(at(place))) {
            places.add(place);
        }
        return places;
    }

    private BigInteger numberAt(int place) {
        BigInteger number = ZERO;
        for (int i = 1; i < length(at(place)); i++) {
            number = number.shiftLeft(8).add(BigInteger.valueOf(at(place + i)));
        }
        return number;
    }

    private boolean mayGo(BigInteger target) {
        return target.bitLength() < 31 && marked(target.intValue());
    }

    private static int takes(int op) {
        if (op == 0 || op >= 0x58 && op <= 0x5B || op >= 0x60 && op <= 0x7F) {
            return 0;
        }
        if (op == 0x15 || op == 0x19 || op == 0x50 || op == 0x51 || op == 0x56) {
            return 1;
        }
        if (op == 8 || op == 9) {
            return 3;
        }
        if (op >= 0x80 && op <= 0x8F) {
            return op - 0x7F;
        }
        if (op >= 0x90 && op <= 0x9F) {
            return op - 0x8E;
        }
        boolean two = op <= 7 || op == 0x0B || op >= 0x10 && op <= 0x1D || op == 0x52 || op == 0x53 || op == 0x57
            || op == 0xF3;
        return two ? 2 : -1;
    }

    private static int gives(int op) {
        if (op >= 0x80 && op <= 0x9F) {
            return takes(op) + (op < 0x90 ? 1 : 0);
        }
        boolean none = op == 0 || op == 0x50 || op == 0x52 || op == 0x53 || op == 0x56 || op == 0x57 || op == 0x5B
            || op == 0xF3;
        return none ? 0 : 1;
    }

    private static int cost(int op) {
        if (op == 0 || op == 0xF3) {
            return 0;
        }
        if (op == 0x5B) {
            return 1;
        }
        if (op == 0x50 || op == 0x58 || op == 0x59 || op == 0x5A) {
            return 2;
        }
        if (op == 2 || op >= 4 && op <= 7 || op == 0x0B) {
            return 5;
        }
        if (op == 8 || op == 9 || op == 0x56) {
            return 8;
        }
        return op == 0x57 ? 10 : 3;
    }

    private BigInteger below(int k) {
        return stack.get(stack.size() - 1 - k);
    }

    private BigInteger take() {
        return stack.remove(stack.size() - 1);
    }

    /** The number of bytes up to the last one used. */
    private BigInteger used(int op) {
        if (op == 0x51 || op == 0x52) {
            return below(0).add(BigInteger.valueOf(32));
        }
        if (op == 0x53) {
            return below(0).add(BigInteger.ONE);
        }
        return op == 0xF3 && below(1).signum() != 0 ? below(0).add(below(1)) : ZERO;
    }

    private void step() {
        int op = at(counter);
        if (takes(op) < 0) {
            how = 7;
            return;
        }
        if (stack.size() < takes(op)) {
            how = 5;
            return;
        }
        if (stack.size() - takes(op) + gives(op) > 16) {
            how = 6;
            return;
        }
        BigInteger used = used(op);
        if (used.compareTo(BigInteger.valueOf(160)) > 0) {
            how = 8;
            return;
        }
        int newSize = Math.max(size, (used.intValue() + 31) / 32 * 32);
        int price = cost(op) + 3 * (newSize - size) / 32;
        if (price > gas) {
            how = 4;
            gas = 0;
            return;
        }
        boolean jumps = op == 0x56 || op == 0x57 && below(1).signum() != 0;
        if (jumps && !mayGo(below(0))) {
            how = 3;
            return;
        }
        gas -= price;
        size = newSize;
        if (op == 0) {
            how = 1;
        } else if (op == 0xF3) {
            how = 2;
            BigInteger from = take();
            returned = new int[take().intValue()];
            for (int i = 0; i < returned.length; i++) {
                returned[i] = mem[from.intValue() + i];
            }
        } else {
            perform(op);
        }
    }

    private void perform(int op) {
        int place = counter;
        counter = place + length(op);
        if (op >= 0x90) {
            int k = op - 0x8F;
            BigInteger top = below(0);
            stack.set(stack.size() - 1, below(k));
            stack.set(stack.size() - 1 - k, top);
        } else if (op >= 0x80) {
            stack.add(below(op - 0x80));
        } else if (op >= 0x60) {
            stack.add(numberAt(place));
        } else if (op >= 0x50) {
            performMiddle(op, place);
        } else {
            BigInteger a = take();
            BigInteger b = takes(op) > 1 ? take() : ZERO;
            BigInteger c = takes(op) > 2 ? take() : ZERO;
            stack.add(value(op, a, b, c));
        }
    }

    private void performMiddle(int op, int place) {
        BigInteger a = takes(op) > 0 ? take() : ZERO;
        BigInteger b = takes(op) > 1 ? take() : ZERO;
        if (op == 0x51) {
            BigInteger word = ZERO;
            for (int i = 0; i < 32; i++) {
                word = word.shiftLeft(8).add(BigInteger.valueOf(mem[a.intValue() + i]));
            }
            stack.add(word);
        } else if (op == 0x52) {
            for (int i = 0; i < 32; i++) {
                mem[a.intValue() + i] = b.shiftRight(8 * (31 - i)).intValue() & 255;
            }
        } else if (op == 0x53) {
            mem[a.intValue()] = b.intValue() & 255;
        } else if (op == 0x56 || op == 0x57 && b.signum() != 0) {
            counter = a.intValue();
        } else if (op == 0x58) {
            stack.add(BigInteger.valueOf(place));
        } else if (op == 0x59) {
            stack.add(BigInteger.valueOf(size));
        } else if (op == 0x5A) {
            stack.add(BigInteger.valueOf(gas));
        }
    }

    private static BigInteger signed(BigInteger word) {
        return word.testBit(255) ? word.subtract(RANGE) : word;
    }

    private static BigInteger truth(boolean is) {
        return is ? BigInteger.ONE : ZERO;
    }

    /** What one of the computing instructions gives. */
    static BigInteger value(int op, BigInteger a, BigInteger b, BigInteger c) {
        BigInteger sa = signed(a);
        BigInteger sb = signed(b);
        boolean far = a.bitLength() > 8;
        switch (op) {
            case 0x01: return a.add(b).mod(RANGE);
            case 0x02: return a.multiply(b).mod(RANGE);
            case 0x03: return a.subtract(b).mod(RANGE);
            case 0x04: return b.signum() == 0 ? ZERO : a.divide(b);
            case 0x05: return b.signum() == 0 ? ZERO : sa.divide(sb).mod(RANGE);
            case 0x06: return b.signum() == 0 ? ZERO : a.mod(b);
            case 0x07: return b.signum() == 0 ? ZERO : sa.remainder(sb).mod(RANGE);
            case 0x08: return c.signum() == 0 ? ZERO : a.add(b).mod(c);
            case 0x09: return c.signum() == 0 ? ZERO : a.multiply(b).mod(c);
            case 0x0B: return extended(a, b);
            case 0x10: return truth(a.compareTo(b) < 0);
            case 0x11: return truth(a.compareTo(b) > 0);
            case 0x12: return truth(sa.compareTo(sb) < 0);
            case 0x13: return truth(sa.compareTo(sb) > 0);
            case 0x14: return truth(a.equals(b));
            case 0x15: return truth(a.signum() == 0);
            case 0x16: return a.and(b);
            case 0x17: return a.or(b);
            case 0x18: return a.xor(b);
            case 0x19: return RANGE.subtract(BigInteger.ONE).subtract(a);
            case 0x1A: return a.bitLength() > 5 ? ZERO
                : b.shiftRight(8 * (31 - a.intValue())).and(BigInteger.valueOf(255));
            case 0x1B: return far ? ZERO : b.shiftLeft(a.intValue()).mod(RANGE);
            case 0x1C: return far ? ZERO : b.shiftRight(a.intValue());
            case 0x1D: return sb.shiftRight(far ? 256 : a.intValue()).mod(RANGE);
            default: throw new IllegalArgumentException();
        }
    }

    private static BigInteger extended(BigInteger a, BigInteger b) {
        if (a.compareTo(BigInteger.valueOf(31)) >= 0) {
            return b;
        }
        int bit = 8 * a.intValue() + 7;
        BigInteger low = b.mod(BigInteger.ONE.shiftLeft(bit + 1));
        return b.testBit(bit) ? low.subtract(BigInteger.ONE.shiftLeft(bit + 1)).mod(RANGE) : low;
    }
}
