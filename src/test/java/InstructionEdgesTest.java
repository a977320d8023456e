/** Each sentence on registers and instructions that names a boundary case, by a test of its own. */
final class InstructionEdgesTest {
    private static final Due DUE = new Due();
    private static final int MIN = Integer.MIN_VALUE;
    private static final int MAX = Integer.MAX_VALUE;
    private static final int[] WORDS = {0, 1, -1, 2, -2, 31, 32, 33, 255, 65535, 65536, 0x7fff8000,
        MAX, MIN, MIN + 1, 0x12345678, 0x87654321};

    private InstructionEdgesTest() {
    }

    public static void main(String[] args) {
        firstRegisterIsAlwaysZero();
        lowestByteIsAtItsOwnAddress();
        bitsOfControls();
        linesAreNotWritten();
        numberI();
        numberS();
        numberB();
        numberU();
        numberJ();
        sumsWrap();
        addressesWrap();
        bitZeroOfATarget();
        comparisons();
        signsOfReads();
        writesLeaveTheirNeighbours();
        bitByBit();
        shiftsByTheirEnds();
        shiftsByFiveBitsAlone();
        upperWords();
        dividedByZero();
        leastByMinusOne();
        quotientsAreCut();
        controlsGetAndLoseBits();
        controlsWithTheNumberOfA();
        returns();
        nothings();
        DUE.close();
    }

    /** What x3 has after the word, which may use x1 and x2. */
    private static int third(int word, int x1, int x2) {
        PipelinedCore core = Programs.around(word, x1, x2);
        core.run(60);
        DUE.same("traps of " + word, core.figure(3), 0);
        return core.reg(3);
    }

    private static int computed(int g, int f, int x1, int x2) {
        return third(Asm.parts(51, 3, f, 1, 2, g), x1, x2);
    }

    private static void computes(int g, int f, int x1, int x2, int due) {
        DUE.same("op 51, g " + g + ", f " + f + " of " + x1 + " and " + x2, computed(g, f, x1, x2),
            due);
    }

    /** x0 is always 0, for the next one too, which gets results as soon as they are there. */
    private static void firstRegisterIsAlwaysZero() {
        int[] words = {Asm.set(0, 5), Asm.upper(0, 4096), Asm.upperAndPc(0, 4096), Asm.jump(0, 4),
            Asm.jumpTo(0, 0, 12), Asm.read(2, 0, 0, 1024), Asm.control(1, 0, 1, Asm.VECTOR),
            Asm.parts(51, 0, 0, 1, 1, 0), Asm.parts(51, 0, 0, 1, 1, 1), Asm.parts(51, 0, 4, 1, 0, 1)};
        for (int word : words) {
            PipelinedCore core = Programs.core(1, Asm.set(1, 9), Asm.control(5, 0, 8, Asm.VECTOR),
                word, Asm.add(2, 0, 3), Asm.nothing(), Asm.add(4, 0, 4), Asm.jump(0, 0));
            core.data(1024, 9);
            core.run(60);
            DUE.same("x0 after " + word, core.reg(0), 0);
            DUE.same("x0 for the next one after " + word, core.reg(2), 3);
            DUE.same("x0 for one later after " + word, core.reg(4), 4);
        }
        DUE.same("x0 is not set by data", third(Asm.parts(51, 3, 0, 0, 0, 0), 5, 6), 0);
    }

    private static void lowestByteIsAtItsOwnAddress() {
        for (int i = 0; i < 4; i++) {
            DUE.same("byte " + i, third(Asm.read(4, 3, 0, 1024 + i), 0x44332211, 0), 0x11 * (i + 1));
        }
        DUE.same("half word 0", third(Asm.read(5, 3, 0, 1024), 0x44332211, 0), 0x2211);
        DUE.same("half word 1", third(Asm.read(5, 3, 0, 1026), 0x44332211, 0), 0x4433);
        PipelinedCore last = Programs.core(1, Asm.read(4, 1, 0, 1279), Asm.read(4, 2, 0, 1276));
        last.data(1276, 0x44332211);
        last.run(12);
        DUE.same("the last byte", last.reg(1), 0x44);
        DUE.same("the last word's lowest byte", last.reg(2), 0x11);
    }

    /** Each bit of each control register, set by f 1 and by f 2; the others stay as they are. */
    private static void bitsOfControls() {
        int[] kept = {136, 2184, -1, -1, -4, -1, -1, 0};
        for (int i = 0; i < kept.length; i++) {
            int number = Asm.CONTROLS[i];
            for (int bit = 0; bit < 32; bit++) {
                for (int f = 1; f <= 2; f++) {
                    PipelinedCore core = Programs.around(Asm.control(f, 3, 1, number), 1 << bit, 0);
                    core.run(40);
                    String what = "bit " + bit + " of " + number + " by f " + f;
                    DUE.same(what + ", rd", core.reg(3), 0);
                    for (int each : Asm.CONTROLS) {
                        DUE.same(what + ": " + each, core.control(each),
                            each == number ? 1 << bit & kept[i] : 0);
                    }
                }
            }
        }
    }

    private static void linesAreNotWritten() {
        for (int f = 1; f <= 3; f++) {
            for (int x1 = -1; x1 <= 0; x1++) {
                PipelinedCore core = Programs.around(Asm.control(f, 3, 1, Asm.LINES), x1, 0);
                core.lines(2056);
                core.run(40);
                DUE.same("LINES after f " + f, core.control(Asm.LINES), 2056);
                DUE.same("LINES read by f " + f, core.reg(3), 2056);
                DUE.same("traps of f " + f, core.figure(3), 0);
            }
        }
    }

    /** Bit by bit, and all bits: signed, from -2048 to 2047. */
    private static void numberI() {
        for (int bit = 0; bit < 11; bit++) {
            DUE.same("I of bit " + bit, third(Asm.withI(19, 3, 0, 0, 1 << bit), 0, 0), 1 << bit);
        }
        DUE.same("I at its least", third(Asm.withI(19, 3, 0, 0, 2048), 0, 0), -2048);
        DUE.same("I at its most", third(Asm.withI(19, 3, 0, 0, 2047), 0, 0), 2047);
        DUE.same("I of all bits", third(Asm.withI(19, 3, 0, 0, 4095), 0, 0), -1);
        DUE.same("I without signs is compared", third(Asm.withI(19, 3, 3, 1, -2048), -2049, 0), 1);
        DUE.same("I without signs is compared", third(Asm.withI(19, 3, 3, 1, -2048), -2048, 0), 0);
    }

    private static void writesBy(int number) {
        PipelinedCore core = Programs.around(Asm.write(0, 2, 1, number), 1100 - number, 0x5a);
        core.run(40);
        DUE.same("S " + number, core.word(1100), 0x5a);
        DUE.same("S " + number + ": traps", core.figure(3), 0);
    }

    private static void numberS() {
        for (int bit = 0; bit < 11; bit++) {
            writesBy(1 << bit);
        }
        writesBy(-2048);
        writesBy(2047);
        writesBy(-1);
        writesBy(0);
    }

    /** Where the word at 8 goes: what is foretold then, or the value of the trap of a crooked one. */
    private static void goesBy(String what, int word, int by) {
        PipelinedCore core = Programs.around(word, 0, 0);
        core.run(11);
        int seen = (by & 3) == 0 ? core.foretold(8) : core.control(Asm.VALUE);
        DUE.same(what + " " + by, seen, 8 + by);
        DUE.same(what + " " + by + ": traps", core.figure(3), (by & 3) == 0 ? 0 : 1);
    }

    private static void numberB() {
        for (int bit = 1; bit < 12; bit++) {
            goesBy("B", Asm.branch(0, 0, 0, 1 << bit), 1 << bit);
        }
        goesBy("B", Asm.branch(0, 0, 0, -4096), -4096);
        goesBy("B", Asm.branch(0, 0, 0, 4094), 4094);
        goesBy("B", Asm.branch(0, 0, 0, 4092), 4092);
        goesBy("B", Asm.branch(0, 0, 0, -2), -2);
        goesBy("B", Asm.branch(0, 0, 0, -4), -4);
    }

    private static void numberU() {
        for (int bit = 12; bit < 32; bit++) {
            DUE.same("U of bit " + bit, third(Asm.upper(3, 1 << bit), 0, 0), 1 << bit);
        }
        DUE.same("U of all bits", third(Asm.upper(3, -4096), 0, 0), -4096);
        DUE.same("U of no bit", third(Asm.upper(3, 0), 0, 0), 0);
    }

    private static void numberJ() {
        for (int bit = 1; bit < 20; bit++) {
            goesBy("J", Asm.jump(0, 1 << bit), 1 << bit);
        }
        goesBy("J", Asm.jump(0, -1048576), -1048576);
        goesBy("J", Asm.jump(0, 1048574), 1048574);
        goesBy("J", Asm.jump(0, 1048572), 1048572);
        goesBy("J", Asm.jump(0, -2), -2);
        goesBy("J", Asm.jump(0, -4), -4);
    }

    private static void sumsWrap() {
        DUE.same("most + 1", third(Asm.add(3, 1, 1), MAX, 0), MIN);
        DUE.same("least - 1", third(Asm.add(3, 1, -1), MIN, 0), MAX);
        DUE.same("-1 + 1", third(Asm.add(3, 1, 1), -1, 0), 0);
        computes(0, 0, MAX, MAX, -2);
        computes(0, 0, MIN, MIN, 0);
        computes(32, 0, MIN, 1, MAX);
        computes(32, 0, 0, MIN, MIN);
        computes(32, 0, MAX, -1, MIN);
        computes(1, 0, MAX, MAX, 1);
        computes(1, 0, MIN, -1, MIN);
        computes(1, 0, 65536, 65536, 0);
        DUE.same("pc + U", third(Asm.upperAndPc(3, -4096), 0, 0), -4088);
        DUE.same("pc + the least U", third(Asm.upperAndPc(3, MIN), 0, 0), MIN + 8);
    }

    private static void trapsWith(String what, int word, int x1, int cause, int value) {
        PipelinedCore core = Programs.around(word, x1, 0);
        core.run(11);
        DUE.same(what + ": CAUSE", core.control(Asm.CAUSE), cause);
        DUE.same(what + ": VALUE", core.control(Asm.VALUE), value);
    }

    private static void addressesWrap() {
        trapsWith("read at most + 1", Asm.read(2, 3, 1, 1), MAX, 5, MIN);
        trapsWith("read at least - 2048", Asm.read(2, 3, 1, -2048), MIN, 5, MAX - 2047);
        trapsWith("write at most + 1", Asm.write(2, 2, 1, 1), MAX, 7, MIN);
        trapsWith("jump to most + 3", Asm.jumpTo(0, 1, 3), MAX, 0, MIN + 2);
        DUE.same("read at -1023 + 2047", third(Asm.read(2, 3, 1, 2047), -1023, 0), -1023);
        PipelinedCore core = Programs.around(Asm.jumpTo(3, 1, 16), -4, 0);
        core.run(30);
        DUE.same("jump to -4 + 16", core.ended(0, 0), 12);
        DUE.same("jump to -4 + 16: traps", core.figure(3), 0);
    }

    /** op 103: bit 0 made 0, of a + I and not of its parts. */
    private static void bitZeroOfATarget() {
        int[][] ways = {{12, 0}, {13, 0}, {12, 1}, {11, 1}, {11, 2}, {15, -3}, {15, -2}};
        for (int[] way : ways) {
            PipelinedCore core = Programs.around(Asm.jumpTo(3, 1, way[1]), way[0], 0);
            core.run(20);
            DUE.same("to " + way[0] + " + " + way[1], core.foretold(8), 12);
            DUE.same("to " + way[0] + " + " + way[1] + ": traps", core.figure(3), 0);
        }
        trapsWith("to 14", Asm.jumpTo(3, 1, 0), 14, 0, 14);
        trapsWith("to 15", Asm.jumpTo(3, 1, 0), 15, 0, 14);
    }

    private static void compared(int a, int b) {
        long plainA = a & 0xffffffffL;
        long plainB = b & 0xffffffffL;
        boolean[] holds = {a == b, a != b, false, false, a < b, a >= b, plainA < plainB,
            plainA >= plainB};
        for (int f = 0; f < 8; f++) {
            if (f != 2 && f != 3) {
                PipelinedCore core = Programs.around(Asm.branch(f, 1, 2, 88), a, b);
                core.run(11);
                DUE.same("branch " + f + " of " + a + " and " + b, core.foretold(8),
                    holds[f] ? 96 : 12);
            }
        }
        computes(0, 2, a, b, a < b ? 1 : 0);
        computes(0, 3, a, b, plainA < plainB ? 1 : 0);
    }

    private static void comparisons() {
        int[] edges = {0, 1, -1, MAX, MIN};
        for (int a : edges) {
            for (int b : edges) {
                compared(a, b);
            }
        }
    }

    private static void reads(int f, int word, int due) {
        DUE.same("read " + f + " of " + word, third(Asm.read(f, 3, 0, 1024), word, 0), due);
    }

    private static void signsOfReads() {
        reads(0, 0x7f, 127);
        reads(0, 0x80, -128);
        reads(0, 0x17f, 127);
        reads(0, 0xff, -1);
        reads(1, 0x7fff, 32767);
        reads(1, 0x8000, -32768);
        reads(1, 0x17fff, 32767);
        reads(1, 0xffff, -1);
        reads(2, MIN, MIN);
        reads(2, -1, -1);
        reads(4, 0x80, 128);
        reads(4, -1, 255);
        reads(5, 0x8000, 32768);
        reads(5, -1, 65535);
    }

    private static void writesLeaveTheirNeighbours() {
        for (int f = 0; f < 3; f++) {
            int size = 1 << f;
            for (int at = 1032; at < 1036; at += size) {
                PipelinedCore core = Programs.around(Asm.write(f, 2, 0, at), 0, 0x99aabbcd);
                core.data(1028 + 4, 0x11223344);
                core.data(1036, 0x55667788);
                core.run(40);
                long mask = (1L << 8 * size) - 1 << 8 * (at - 1032);
                long due = 0x11223344 & ~mask | (0x99aabbcdL << 8 * (at - 1032)) & mask;
                DUE.same("write " + f + " at " + at, core.word(1032), (int) due);
                DUE.same("before it", core.word(1028), 0x99aabbcd);
                DUE.same("behind it", core.word(1036), 0x55667788);
            }
        }
    }

    private static void bitByBit() {
        int[] edges = {0, -1, MIN, MAX, 0x0ff0, -2048, 2047};
        for (int a : edges) {
            for (int b : edges) {
                computes(0, 4, a, b, a ^ b);
                computes(0, 6, a, b, a | b);
                computes(0, 7, a, b, a & b);
            }
            DUE.same(a + " xor -2048", third(Asm.withI(19, 3, 4, 1, -2048), a, 0), a ^ -2048);
            DUE.same(a + " or -2048", third(Asm.withI(19, 3, 6, 1, -2048), a, 0), a | -2048);
            DUE.same(a + " and -2048", third(Asm.withI(19, 3, 7, 1, -2048), a, 0), a & -2048);
        }
    }

    private static void shiftsByTheirEnds() {
        for (int word : WORDS) {
            int[] amounts = {0, 1, 30, 31};
            for (int n : amounts) {
                String what = word + " by " + n;
                DUE.same("left " + what, third(Asm.parts(19, 3, 1, 1, n, 0), word, 0), word << n);
                DUE.same("right " + what, third(Asm.parts(19, 3, 5, 1, n, 0), word, 0), word >>> n);
                DUE.same("with the sign " + what, third(Asm.parts(19, 3, 5, 1, n, 32), word, 0),
                    word >> n);
            }
        }
    }

    private static void shiftsByFiveBitsAlone() {
        int[][] amounts = {{0, 0}, {31, 31}, {32, 0}, {33, 1}, {63, 31}, {64, 0}, {-1, 31},
            {-32, 0}, {MIN, 0}, {MAX, 31}};
        for (int[] amount : amounts) {
            int n = amount[1];
            computes(0, 1, 0x87654321, amount[0], 0x87654321 << n);
            computes(0, 5, 0x87654321, amount[0], 0x87654321 >>> n);
            computes(32, 5, 0x87654321, amount[0], 0x87654321 >> n);
        }
    }

    /** The upper words of products at their ends. */
    private static void upperWords() {
        int[][] due = {{-1, -1, 0, -1, -2}, {MIN, MIN, 1 << 30, -(1 << 30), 1 << 30},
            {MAX, MAX, (1 << 30) - 1, (1 << 30) - 1, (1 << 30) - 1}, {MIN, -1, 0, MIN, MAX},
            {-1, MIN, 0, -1, MAX}, {MIN, 1, -1, -1, 0}, {1, MIN, -1, 0, 0}, {0, -1, 0, 0, 0},
            {-1, 1, -1, -1, 0}, {1, -1, -1, 0, 0}, {MAX, -1, -1, MAX - 1, MAX - 1}};
        for (int[] row : due) {
            for (int f = 1; f <= 3; f++) {
                computes(1, f, row[0], row[1], row[f + 1]);
            }
        }
    }

    private static void dividedByZero() {
        for (int a : WORDS) {
            computes(1, 4, a, 0, -1);
            computes(1, 5, a, 0, -1);
            computes(1, 6, a, 0, a);
            computes(1, 7, a, 0, a);
        }
    }

    private static void leastByMinusOne() {
        computes(1, 4, MIN, -1, MIN);
        computes(1, 6, MIN, -1, 0);
        computes(1, 5, MIN, -1, 0);
        computes(1, 7, MIN, -1, MIN);
        computes(1, 4, MIN + 1, -1, MAX);
        computes(1, 6, MIN + 1, -1, 0);
        computes(1, 4, MIN, 1, MIN);
        computes(1, 4, MIN, MIN, 1);
        computes(1, 6, MIN, MAX, -1);
    }

    /** The quotient is cut, and the remainder has the sign of a. */
    private static void quotientsAreCut() {
        int[][] due = {{7, 2, 3, 1}, {-7, 2, -3, -1}, {7, -2, -3, 1}, {-7, -2, 3, -1},
            {1, 2, 0, 1}, {-1, 2, 0, -1}, {-6, 3, -2, 0}, {0, -3, 0, 0}};
        for (int[] row : due) {
            computes(1, 4, row[0], row[1], row[2]);
            computes(1, 6, row[0], row[1], row[3]);
        }
        computes(1, 5, -1, 2, MAX);
        computes(1, 7, -1, 2, 1);
        computes(1, 5, 1, -1, 0);
        computes(1, 7, 1, -1, 1);
        computes(1, 5, -1, -1, 1);
        computes(1, 5, -1, 1, -1);
    }

    /** SCRATCH is x1 at first, then the word with x2. */
    private static void scratch(int f, int x1, int x2, int due) {
        PipelinedCore core = Programs.core(1, Asm.read(2, 1, 0, 1024), Asm.read(2, 2, 0, 1028),
            Asm.control(1, 0, 1, Asm.SCRATCH), Asm.control(f, 3, 2, Asm.SCRATCH), Asm.jump(0, 0));
        core.data(1024, x1);
        core.data(1028, x2);
        core.run(30);
        DUE.same("f " + f + " of " + x1 + " and " + x2, core.control(Asm.SCRATCH), due);
        DUE.same("f " + f + " of " + x1 + " and " + x2 + ", rd", core.reg(3), x1);
    }

    private static void controlsGetAndLoseBits() {
        int[][] pairs = {{0, 0}, {-1, 0}, {0, -1}, {-1, -1}, {12, 10}, {MIN, MAX}, {MAX, MIN}};
        for (int[] pair : pairs) {
            scratch(1, pair[0], pair[1], pair[1]);
            scratch(2, pair[0], pair[1], pair[0] | pair[1]);
            scratch(3, pair[0], pair[1], pair[0] & ~pair[1]);
        }
        PipelinedCore same = Programs.around(Asm.control(1, 1, 1, Asm.SCRATCH), 44, 0);
        same.run(30);
        DUE.same("rd is a: the control register", same.control(Asm.SCRATCH), 44);
        DUE.same("rd is a: the register", same.reg(1), 0);
    }

    /** f 5, 6, 7: the number of register a, 0 .. 31, and not what that has. */
    private static void controlsWithTheNumberOfA() {
        for (int a = 0; a < 32; a++) {
            PipelinedCore core = Programs.core(1, Asm.set(a, 1000), Asm.set(2, 85),
                Asm.control(1, 0, 2, Asm.SCRATCH), Asm.control(7, 3, a, Asm.SCRATCH),
                Asm.control(6, 4, a, Asm.SCRATCH), Asm.control(5, 5, a, Asm.SCRATCH),
                Asm.control(2, 6, 0, Asm.SCRATCH));
            core.run(11);
            DUE.same("before f 7 of " + a, core.reg(3), 85);
            DUE.same("after f 7 of " + a, core.reg(4), 85 & ~a);
            DUE.same("after f 6 of " + a, core.reg(5), 85 | a);
            DUE.same("after f 5 of " + a, core.reg(6), a);
        }
    }

    /** ON becomes WAS ON, and WAS ON becomes 1; the next one is at RETURN, code or not. */
    private static void returns() {
        int[][] due = {{0, 128}, {8, 128}, {128, 136}, {136, 136}};
        for (int[] row : due) {
            PipelinedCore core = Programs.core(1, Asm.set(1, row[0]),
                Asm.control(1, 0, 1, Asm.STATUS), Asm.control(5, 0, 31, Asm.RETURN_TO), Asm.RETURN,
                0, 0, 0, Asm.jump(0, 0));
            core.run(5);
            DUE.same("before a return", core.control(Asm.STATUS), row[0]);
            core.run(1);
            DUE.same("after a return", core.control(Asm.STATUS), row[1]);
            core.run(20);
            DUE.same("it went to RETURN", core.ended(0, 0), 28);
            DUE.same("RETURN stays", core.control(Asm.RETURN_TO), 28);
            DUE.same("no trap", core.figure(3), 0);
        }
        PipelinedCore out = Programs.core(1, Asm.set(1, -1), Asm.control(1, 0, 1, Asm.RETURN_TO),
            Asm.RETURN);
        out.run(8);
        DUE.same("a return to no code: CAUSE", out.control(Asm.CAUSE), 1);
        DUE.same("a return to no code: VALUE", out.control(Asm.VALUE), -4);
    }

    /** op 15 with anything else in its word, and the word 273678451. */
    private static void nothings() {
        for (int bit = 6; bit < 32; bit++) {
            nothing(bit < 7 ? Asm.WAIT : 15 | 1 << bit);
        }
        nothing(15);
        nothing(-128 | 15);
    }

    private static void nothing(int word) {
        PipelinedCore core = Programs.around(word, 3, 4);
        core.run(10);
        DUE.same("nothing by " + word + ": traps", core.figure(3), 0);
        core.run(30);
        for (int i = 0; i < 32; i++) {
            DUE.same("nothing by " + word + ": x" + i, core.reg(i), i == 1 ? 3 : i == 2 ? 4 : 0);
        }
        for (int number : Asm.CONTROLS) {
            DUE.same("nothing by " + word + ": " + number, core.control(number), 0);
        }
        DUE.same("nothing by " + word + ": goes on", core.ended(0, 0), 12);
    }
}
