import java.math.BigInteger;
import java.util.ArrayList;
import java.util.HashSet;
import java.util.List;
import java.util.Set;

/**
 * The document's formulas taken word for word: instructions are done one after the other, each
 * gets its F, D, E, M and W, and what is to be seen in a cycle is looked up in the list of all.
 */
final class Model {
    private static final int NONE = Integer.MIN_VALUE;

    /** One instruction of the list. */
    private static final class Done {
        int address;
        int word;
        int fetched;
        int decoded;
        int begins;
        int memory = NONE;
        int ends = NONE;
        int foretold;
        boolean trapped;
        boolean failed;
        boolean missed;
        boolean wrong;
        int rd;
        int value;
        int stored = NONE;
        byte[] bytes = new byte[0];
        int[][] entries;

        boolean counts() {
            return !trapped && !failed;
        }
    }

    private final int[] code = new int[128];
    private final byte[] firstData = new byte[256];
    private final byte[] data = new byte[256];
    private final int latency;
    private final int[] x = new int[32];
    private final int[] controls = new int[4096];
    private final int[] cached = {-1, -1, -1, -1};
    private final Set<Integer> dirty = new HashSet<>();
    private int[][] entries = new int[4][];
    private final List<Done> list = new ArrayList<>();
    private int cycle;
    private Done k;
    private int next;
    private boolean jumped;

    Model(int latency) {
        this.latency = latency < 1 ? 1 : latency > 8 ? 8 : latency;
    }

    void code(int n, int word) {
        code[n] = word;
    }

    void data(int address, int word) {
        for (int i = 0; i < 4; i++) {
            firstData[address - 1024 + i] = (byte) (word >> 8 * i);
            data[address - 1024 + i] = (byte) (word >> 8 * i);
        }
    }

    void lines(int mask) {
        controls[836] = mask;
    }

    int run(int n) {
        int before = figure(1);
        cycle += n;
        if (k == null) {
            k = timed(0, null);
        }
        while (k.begins <= cycle) {
            perform();
            list.add(k);
            k = timed(next, k);
        }
        return figure(1) - before;
    }

    /** Instruction k at an address, after the one before it, up to E(k). */
    private Done timed(int address, Done before) {
        Done done = new Done();
        Done p = latest();
        done.address = address;
        done.word = isCode(address) ? code[address / 4] : 0;
        if (before == null) {
            done.fetched = 1;
        } else if (before.counts() && before.word != 807403635 && before.foretold == address) {
            done.fetched = before.decoded;
        } else {
            done.fetched = before.begins + 1;
        }
        done.decoded = done.fetched + 1;
        if (before != null && before.begins > done.decoded) {
            done.decoded = before.begins;
        }
        done.begins = done.decoded + 1;
        if (before != null) {
            done.begins = Math.max(done.begins, before == p ? p.memory : before.begins + 1);
        }
        if (p != null && (p.word & 127) == 3 && bits(p.word, 7, 11) != 0
            && usedBy(done.word).contains(bits(p.word, 7, 11))) {
            done.begins = Math.max(done.begins, p.ends);
        }
        done.foretold = foretold(address, done.fetched);
        return done;
    }

    private Done latest() {
        for (int i = list.size() - 1; i >= 0; i--) {
            if (list.get(i).counts()) {
                return list.get(i);
            }
        }
        return null;
    }

    private static Set<Integer> usedBy(int word) {
        Set<Integer> used = new HashSet<>();
        int op = word & 127;
        int f = bits(word, 12, 14);
        boolean system = op == 115 && (f == 0 || f == 5 || f == 6 || f == 7);
        if (op != 55 && op != 23 && op != 111 && op != 15 && !system) {
            used.add(bits(word, 15, 19));
        }
        if (op == 99 || op == 35 || op == 51) {
            used.add(bits(word, 20, 24));
        }
        return used;
    }

    private static int bits(int word, int from, int to) {
        return (int) ((word & 0xffffffffL) >> from & (1L << to - from + 1) - 1);
    }

    private static int signed(int value, int width) {
        return value << 32 - width >> 32 - width;
    }

    private static boolean isCode(int address) {
        return address >= 0 && address <= 508 && address % 4 == 0;
    }

    private int foretold(int address, int before) {
        int[][] then = new int[4][];
        for (Done done : list) {
            if (done.begins < before) {
                then = done.entries;
            }
        }
        int[] entry = then[Math.floorMod(Math.floorDiv(address, 4), 4)];
        boolean known = entry != null && entry[0] == address && entry[2] >= 2;
        return known ? entry[1] : address + 4;
    }

    private void perform() {
        next = k.address + 4;
        jumped = false;
        int line = interrupt();
        if (line >= 0) {
            k.failed = true;
            enter(Integer.MIN_VALUE + line, 0);
            if (controls[773] % 2 != 0) {
                next += 4 * line;
            }
        } else if (!isCode(k.address)) {
            trap(1, k.address);
        } else {
            execute(k.word & 127, bits(k.word, 12, 14), bits(k.word, 25, 31));
        }
        if (k.counts()) {
            finish();
        }
        k.entries = entries;
    }

    private int interrupt() {
        int both = controls[836] & controls[772];
        if (bits(controls[768], 3, 3) == 1) {
            for (int line : new int[] {11, 3, 7}) {
                if (bits(both, line, line) == 1) {
                    return line;
                }
            }
        }
        return -1;
    }

    private void trap(int cause, int value) {
        k.trapped = true;
        enter(cause, value);
    }

    private void enter(int cause, int value) {
        controls[833] = k.address;
        controls[834] = cause;
        controls[835] = value;
        controls[768] = 128 * bits(controls[768], 3, 3);
        next = controls[773] & ~3;
    }

    private void finish() {
        Done p = latest();
        int op = k.word & 127;
        int effort = 1;
        if (op == 51 && bits(k.word, 25, 31) == 1) {
            effort = bits(k.word, 12, 14) < 4 ? 4 : 33;
        }
        k.memory = Math.max(k.begins + effort, p == null ? 0 : p.ends);
        int m = 1;
        if (op == 3 || op == 35) {
            m += visit((k.stored - 1024) / 16, op == 35);
        }
        k.ends = k.memory + m;
        if (op == 111 || op == 103 || op == 99) {
            k.wrong = next != k.foretold;
            learn();
        }
        if (k.rd != 0) {
            x[k.rd] = k.value;
        }
        for (int i = 0; i < k.bytes.length; i++) {
            data[k.stored - 1024 + i] = k.bytes[i];
        }
    }

    private int visit(int line, boolean writes) {
        int extra = 0;
        int old = cached[line % 4];
        if (old != line) {
            k.missed = true;
            extra = dirty.remove(old) ? 8 * latency : 4 * latency;
            cached[line % 4] = line;
        }
        if (writes) {
            dirty.add(line);
        }
        return extra;
    }

    private void learn() {
        int n = k.address / 4 % 4;
        int[] old = entries[n];
        boolean known = old != null && old[0] == k.address;
        if (!known && !jumped) {
            return;
        }
        entries = entries.clone();
        if (!known) {
            entries[n] = new int[] {k.address, next, 2};
        } else if (jumped) {
            entries[n] = new int[] {k.address, next, old[2] == 3 ? 3 : old[2] + 1};
        } else {
            entries[n] = new int[] {k.address, old[1], old[2] == 0 ? 0 : old[2] - 1};
        }
    }

    private void gives(int value) {
        k.rd = bits(k.word, 7, 11);
        k.value = value;
    }

    private void execute(int op, int f, int g) {
        int a = x[bits(k.word, 15, 19)];
        int b = x[bits(k.word, 20, 24)];
        int number = signed(bits(k.word, 20, 31), 12);
        int upper = bits(k.word, 12, 31) * 4096;
        if (op == 55) {
            gives(upper);
        } else if (op == 23) {
            gives(k.address + upper);
        } else if (op == 111) {
            goTo(k.address + signed(bits(k.word, 31, 31) * 1048576 + bits(k.word, 12, 19) * 4096
                + bits(k.word, 20, 20) * 2048 + bits(k.word, 21, 30) * 2, 21), true);
        } else if (op == 103 && f == 0) {
            int target = a + number;
            goTo(target - bits(target, 0, 0), true);
        } else if (op == 99 && f != 2 && f != 3) {
            if (holds(f, a, b)) {
                goTo(k.address + signed(bits(k.word, 31, 31) * 4096 + bits(k.word, 7, 7) * 2048
                    + bits(k.word, 25, 30) * 32 + bits(k.word, 8, 11) * 2, 13), false);
            }
        } else if (op == 3 && (f < 3 || f == 4 || f == 5)) {
            read(f, a + number);
        } else if (op == 35 && f < 3) {
            write(1 << f, a + signed(g * 32 + bits(k.word, 7, 11), 12), b);
        } else if (op == 19 && (f != 1 && f != 5 || g == 0)) {
            gives(compute(f, a, number));
        } else if (op == 19 && f == 5 && g == 32) {
            gives(a >> bits(k.word, 20, 24));
        } else if (op == 51 && g == 0) {
            gives(compute(f, a, b));
        } else if (op == 51 && g == 32 && f == 0) {
            gives(a - b);
        } else if (op == 51 && g == 32 && f == 5) {
            gives(a >> bits(b, 0, 4));
        } else if (op == 51 && g == 1) {
            gives(big(f, a, b));
        } else if (op == 115 && f % 4 != 0 && isControl(bits(k.word, 20, 31))) {
            control(f, bits(k.word, 20, 31), f < 4 ? a : bits(k.word, 15, 19));
        } else if (k.word == 807403635) {
            next = controls[833];
            controls[768] = 128 + 8 * bits(controls[768], 7, 7);
        } else if (k.word == 115 || k.word == 1048691) {
            trap(k.word == 115 ? 11 : 3, 0);
        } else if (op != 15 && k.word != 273678451) {
            trap(2, k.word);
        }
    }

    private void goTo(int target, boolean links) {
        if (Math.floorMod(target, 4) != 0) {
            trap(0, target);
            return;
        }
        if (links) {
            gives(k.address + 4);
        }
        next = target;
        jumped = true;
    }

    private static boolean holds(int f, int a, int b) {
        int compared = f < 6 ? Integer.compare(a, b) : Integer.compareUnsigned(a, b);
        boolean plain = f < 2 ? compared == 0 : compared < 0;
        return f % 2 == 0 ? plain : !plain;
    }

    private void read(int f, int address) {
        int size = 1 << f % 4;
        if (Math.floorMod(address, size) != 0) {
            trap(4, address);
        } else if (address < 1024 || address > 1279) {
            trap(5, address);
        } else {
            k.stored = address;
            int value = 0;
            for (int i = 0; i < size; i++) {
                value |= (data[address - 1024 + i] & 255) << 8 * i;
            }
            gives(f < 2 ? signed(value, 8 * size) : value);
        }
    }

    private void write(int size, int address, int value) {
        if (Math.floorMod(address, size) != 0) {
            trap(6, address);
        } else if (address < 1024 || address > 1279) {
            trap(7, address);
        } else {
            k.stored = address;
            k.bytes = new byte[size];
            for (int i = 0; i < size; i++) {
                k.bytes[i] = (byte) (value >> 8 * i);
            }
        }
    }

    private static int compute(int f, int a, int b) {
        int[] all = {a + b, a << bits(b, 0, 4), Integer.compare(a, b) < 0 ? 1 : 0,
            Integer.compareUnsigned(a, b) < 0 ? 1 : 0, a ^ b, a >>> bits(b, 0, 4), a | b, a & b};
        return all[f];
    }

    private static int big(int f, int a, int b) {
        BigInteger bigA = BigInteger.valueOf(f == 3 || f == 5 || f == 7 ? a & 0xffffffffL : a);
        boolean without = f == 2 || f == 3 || f == 5 || f == 7;
        BigInteger bigB = BigInteger.valueOf(without ? b & 0xffffffffL : b);
        if (f < 4) {
            return bigA.multiply(bigB).shiftRight(f == 0 ? 0 : 32).intValue();
        }
        if (b == 0) {
            return f < 6 ? -1 : a;
        }
        return (f < 6 ? bigA.divide(bigB) : bigA.remainder(bigB)).intValue();
    }

    private static boolean isControl(int number) {
        return number == 768 || number == 772 || number == 773 || number >= 832 && number <= 836;
    }

    private void control(int f, int number, int operand) {
        int old = controls[number];
        gives(old);
        int fresh = f % 4 == 1 ? operand : f % 4 == 2 ? old | operand : old & ~operand;
        switch (number) {
            case 768 -> controls[number] = fresh & 136;
            case 772 -> controls[number] = fresh & 2184;
            case 833 -> controls[number] = fresh & ~3;
            case 836 -> { }
            default -> controls[number] = fresh;
        }
    }

    private boolean hasEnded(Done done) {
        return done.counts() && done.ends <= cycle;
    }

    int reg(int i) {
        int value = 0;
        for (Done done : list) {
            if (hasEnded(done) && i != 0 && done.rd == i) {
                value = done.value;
            }
        }
        return value;
    }

    int control(int number) {
        return isControl(number) ? controls[number] : 0;
    }

    int word(int address) {
        if (address < 1024 || address > 1276 || address % 4 != 0) {
            return 0;
        }
        byte[] seen = firstData.clone();
        for (Done done : list) {
            for (int i = 0; hasEnded(done) && i < done.bytes.length; i++) {
                seen[done.stored - 1024 + i] = done.bytes[i];
            }
        }
        int at = address - 1024;
        return seen[at] & 255 | (seen[at + 1] & 255) << 8 | (seen[at + 2] & 255) << 16
            | seen[at + 3] << 24;
    }

    int ended(int i, int which) {
        int left = i;
        if (i < 0 || i > 15) {
            return -1;
        }
        for (int n = list.size() - 1; n >= 0; n--) {
            Done done = list.get(n);
            if (hasEnded(done) && left-- == 0) {
                return which == 0 ? done.address : which == 1 ? done.ends : -1;
            }
        }
        return -1;
    }

    int stage(int stage) {
        for (Done done : list) {
            boolean there = stage == 2 && cycle < done.memory
                || stage == 3 && done.memory <= cycle && cycle < done.ends
                || stage == 4 && done.ends == cycle;
            if (done.counts() && there) {
                return done.address;
            }
        }
        return -1;
    }

    int foretold(int address) {
        return foretold(address, cycle + 1);
    }

    int figure(int which) {
        int[] all = new int[6];
        all[0] = cycle;
        for (Done done : list) {
            all[1] += hasEnded(done) ? 1 : 0;
            all[2] += hasEnded(done) && done.missed ? 1 : 0;
            all[3] += done.trapped ? 1 : 0;
            all[4] += done.failed ? 1 : 0;
            all[5] += done.wrong ? 1 : 0;
        }
        return which < 0 || which > 5 ? -1 : all[which];
    }
}
