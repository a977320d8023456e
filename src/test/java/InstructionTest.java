/** What every instruction, trap and interrupt does. */
final class InstructionTest {
    private static final Due DUE = new Due();
    private static final int MIN = Integer.MIN_VALUE;
    private static final int MAX = Integer.MAX_VALUE;

    /** The word at address 8 begins in cycle 9 or 10; if it traps, the next one ends in 15. */
    private static final int ONCE = 12;

    private InstructionTest() {
    }

    public static void main(String[] args) {
        withNumber();
        withRegister();
        products();
        quotients();
        upper();
        jumps();
        branches();
        reads();
        writes();
        controls();
        controlBits();
        nothing();
        noInstructions();
        otherTraps();
        statusOfTraps();
        whatTrapsDoesNothing();
        interrupts();
        interruptBeforeTrap();
        firstRegister();
        DUE.close();
    }

    private static int result(int word, int x1, int x2) {
        PipelinedCore core = Programs.around(word, x1, x2);
        core.run(100);
        DUE.same("traps of " + word, core.figure(3), 0);
        return core.reg(3);
    }

    private static void number(int f, int x1, int number, int want) {
        DUE.same("op 19, f " + f + " of " + x1 + ", " + number,
            result(Asm.withI(19, 3, f, 1, number), x1, 77), want);
    }

    private static void withNumber() {
        number(0, 5, 7, 12);
        number(0, MAX, 1, MIN);
        number(0, 0, -2048, -2048);
        number(0, 1, 2047, 2048);
        number(2, -1, 0, 1);
        number(2, 0, -1, 0);
        number(2, 3, 3, 0);
        number(3, -1, 0, 0);
        number(3, 0, -1, 1);
        number(3, -3, -2, 1);
        number(4, 0x0ff0, -1, ~0x0ff0);
        number(6, 0x0ff0, 0x70f, 0x0fff);
        number(7, 0x0ff0, 0x70f, 0x0700);
        number(1, 3, 31, MIN);
        number(1, 3, 0, 3);
        number(5, MIN, 31, 1);
        number(5, -1, 4, 0x0fffffff);
        number(5, MIN, 31 | 32 << 5, -1);
        number(5, MAX, 30 | 32 << 5, 1);
    }

    private static void register(int g, int f, int x1, int x2, int want) {
        DUE.same("op 51, g " + g + ", f " + f + " of " + x1 + ", " + x2,
            result(Asm.parts(51, 3, f, 1, 2, g), x1, x2), want);
    }

    private static void withRegister() {
        register(0, 0, MAX, 1, MIN);
        register(0, 1, 3, 33, 6);
        register(0, 1, 3, -1, MIN);
        register(0, 2, MIN, MAX, 1);
        register(0, 2, MAX, MIN, 0);
        register(0, 3, MIN, MAX, 0);
        register(0, 3, MAX, MIN, 1);
        register(0, 4, 12, 10, 6);
        register(0, 5, MIN, 63, 1);
        register(0, 6, 12, 10, 14);
        register(0, 7, 12, 10, 8);
        register(32, 0, MIN, 1, MAX);
        register(32, 0, 3, 5, -2);
        register(32, 5, MIN, 63, -1);
        register(32, 5, -8, 33, -4);
    }

    private static void products() {
        register(1, 0, 65537, 65537, 131073);
        register(1, 0, -3, 5, -15);
        register(1, 1, -1, -1, 0);
        register(1, 1, MIN, MIN, 1 << 30);
        register(1, 1, MIN, 2, -1);
        register(1, 2, -1, -1, -1);
        register(1, 2, MIN, -1, MIN);
        register(1, 2, 2, MIN, 1);
        register(1, 3, -1, -1, -2);
        register(1, 3, MIN, 2, 1);
    }

    private static void quotients() {
        register(1, 4, 7, -2, -3);
        register(1, 4, -7, 2, -3);
        register(1, 4, MIN, -1, MIN);
        register(1, 4, 7, 0, -1);
        register(1, 4, MIN, 1, MIN);
        register(1, 5, -7, 2, 0x7ffffffc);
        register(1, 5, MIN, -1, 0);
        register(1, 5, -1, -1, 1);
        register(1, 5, 7, 0, -1);
        register(1, 6, 7, -2, 1);
        register(1, 6, -7, 2, -1);
        register(1, 6, MIN, -1, 0);
        register(1, 6, -7, 0, -7);
        register(1, 7, -7, 2, 1);
        register(1, 7, MIN, -1, MIN);
        register(1, 7, -7, 0, -7);
    }

    private static void upper() {
        DUE.same("op 55", result(Asm.upper(3, 0xabcde000), 0, 0), 0xabcde000);
        DUE.same("op 23", result(Asm.upperAndPc(3, 0x1000), 0, 0), 0x1008);
        DUE.same("op 23 wraps", result(Asm.upperAndPc(3, 0xfffff000), 0, 0), 8 - 4096);
    }

    private static void jumps() {
        int[] by = {4, 100, 500, 2048, 4096, -8, -4, -1048576, 1048572};
        for (int way : by) {
            PipelinedCore core = Programs.around(Asm.jump(3, way), 0, 0);
            core.run(ONCE);
            DUE.same("op 111 by " + way + " goes to", core.foretold(8), 8 + way);
            DUE.same("op 111 by " + way + " links", core.reg(3), 12);
        }
        PipelinedCore core = Programs.around(Asm.jumpTo(1, 1, -7), 108, 0);
        core.run(ONCE);
        DUE.same("op 103 makes bit 0 0", core.foretold(8), 100);
        DUE.same("op 103 links over a", core.reg(1), 12);
    }

    private static void branch(int f, int x1, int x2, boolean goes) {
        PipelinedCore core = Programs.around(Asm.branch(f, 1, 2, 100), x1, x2);
        core.run(30);
        DUE.same("branch " + f + " of " + x1 + ", " + x2, core.foretold(8), goes ? 108 : 12);
        PipelinedCore trapped = Programs.around(Asm.branch(f, 1, 2, -6), x1, x2);
        trapped.run(ONCE);
        DUE.same("crooked branch " + f + " of " + x1 + ", " + x2, trapped.figure(3), goes ? 1 : 0);
    }

    private static void branches() {
        int[][] pairs = {{0, 0}, {1, 2}, {2, 1}, {-1, 1}, {1, -1}, {MIN, MAX}, {MAX, MIN}, {-5, -4}};
        for (int[] pair : pairs) {
            int a = pair[0];
            int b = pair[1];
            branch(0, a, b, a == b);
            branch(1, a, b, a != b);
            branch(4, a, b, a < b);
            branch(5, a, b, a >= b);
            branch(6, a, b, Integer.compareUnsigned(a, b) < 0);
            branch(7, a, b, Integer.compareUnsigned(a, b) >= 0);
        }
        int[] by = {-8, -4, 8, 2044, 2048, 4092, -2048, -4096};
        for (int way : by) {
            PipelinedCore core = Programs.around(Asm.branch(0, 0, 0, way), 0, 0);
            core.run(ONCE);
            DUE.same("branch by " + way, core.foretold(8), 8 + way);
        }
    }

    private static void read(int f, int number, int want) {
        DUE.same("read " + f + " at " + number, result(Asm.read(f, 3, 0, number), 0x80f17f82, 0), want);
    }

    private static void reads() {
        read(0, 1024, (byte) 0x82);
        read(0, 1025, 0x7f);
        read(0, 1026, (byte) 0xf1);
        read(0, 1027, (byte) 0x80);
        read(1, 1024, 0x7f82);
        read(1, 1026, (short) 0x80f1);
        read(2, 1024, 0x80f17f82);
        read(4, 1024, 0x82);
        read(4, 1027, 0x80);
        read(5, 1024, 0x7f82);
        read(5, 1026, 0x80f1);
        read(4, 1279, 0);
        read(5, 1278, 0);
        read(2, 1276, 0);
        DUE.same("read at a - 4", result(Asm.read(2, 3, 1, -4), 1032, 55), 55);
    }

    private static void write(int f, int number, int want) {
        PipelinedCore core = Programs.around(Asm.write(f, 2, 0, number), 0x11223344, 0xaabbccdd);
        core.run(100);
        DUE.same("write " + f + " at " + number, core.word(number & -4), want);
        DUE.same("write " + f + " at " + number + " traps", core.figure(3), 0);
    }

    private static void writes() {
        write(0, 1024, 0x112233dd);
        write(0, 1025, 0x1122dd44);
        write(0, 1026, 0x11dd3344);
        write(0, 1027, 0xdd223344);
        write(1, 1024, 0x1122ccdd);
        write(1, 1026, 0xccdd3344);
        write(2, 1024, 0xaabbccdd);
        write(0, 1279, 0xdd000000);
        write(1, 1278, 0xccdd0000);
        write(2, 1276, 0xaabbccdd);
        PipelinedCore back = Programs.around(Asm.write(2, 2, 1, -2048), 3072, 9);
        back.run(100);
        DUE.same("write at a - 2048", back.word(1024), 9);
        PipelinedCore both = Programs.core(1, Asm.set(1, 300), Asm.write(0, 1, 0, 1030),
            Asm.read(2, 2, 0, 1028), Asm.jump(0, 0));
        both.run(40);
        DUE.same("what was just written is read", both.reg(2), 44 << 16);
    }

    private static void control(int f, int x1, int want) {
        int set = Asm.control(5, 0, 12, Asm.SCRATCH);
        PipelinedCore core = Programs.core(1, Asm.set(1, x1), set, Asm.control(f, 1, 1, Asm.SCRATCH),
            Asm.jump(0, 0));
        core.run(20);
        DUE.same("op 115, f " + f + ", rd", core.reg(1), 12);
        DUE.same("op 115, f " + f, core.control(Asm.SCRATCH), want);
    }

    private static void controls() {
        control(1, -10, -10);
        control(2, 6, 14);
        control(3, 6, 8);
        control(5, 6, 1);
        control(6, 6, 13);
        control(7, 6, 12);
        PipelinedCore core = Programs.core(1, Asm.control(5, 0, 31, Asm.SCRATCH),
            Asm.control(7, 0, 21, Asm.SCRATCH), Asm.jump(0, 0));
        core.run(20);
        DUE.same("op 115, f 7 takes bits", core.control(Asm.SCRATCH), 10);
    }

    private static void controlBits() {
        int[] kept = {136, 2184, -1, -1, -4, -1, -1, 0};
        for (int i = 0; i < kept.length; i++) {
            int number = Asm.CONTROLS[i];
            PipelinedCore core = Programs.core(1, Asm.set(1, -1), Asm.control(1, 2, 1, number),
                Asm.control(2, 3, 0, number), Asm.jump(0, 0));
            core.run(20);
            DUE.same("bits of " + number, core.control(number), kept[i]);
            DUE.same("bits of " + number + " read", core.reg(3), kept[i]);
        }
        PipelinedCore core = Programs.core(1, Asm.set(1, -1), Asm.control(1, 2, 1, Asm.LINES),
            Asm.control(3, 3, 1, Asm.LINES), Asm.jump(0, 0));
        core.lines(128);
        core.run(20);
        DUE.same("LINES is read", core.reg(2), 128);
        DUE.same("LINES is read again", core.reg(3), 128);
        DUE.same("LINES stays", core.control(Asm.LINES), 128);
    }

    private static void nothing() {
        int[] words = {15, 15 | 7 << 12 | 3 << 7, -1 & ~127 | 15, Asm.WAIT};
        for (int word : words) {
            PipelinedCore core = Programs.around(word, 3, 4);
            core.run(30);
            DUE.same("traps of " + word, core.figure(3), 0);
            DUE.same("x3 after " + word, core.reg(3), 0);
            DUE.same("x31 after " + word, core.reg(31), 0);
        }
    }

    private static void trapped(String what, int word, int x1, int cause, int value) {
        PipelinedCore core = Programs.around(word, x1, 2);
        core.run(10);
        DUE.same(what + ", stage 2", core.stage(2), -1);
        DUE.same(what + ", stage 3", core.stage(3), -1);
        core.run(ONCE - 10);
        DUE.same(what + ", traps", core.figure(3), 1);
        DUE.same(what + ", cause", core.control(Asm.CAUSE), cause);
        DUE.same(what + ", value", core.control(Asm.VALUE), value);
        DUE.same(what + ", return", core.control(Asm.RETURN_TO), 8);
        DUE.same(what + ", ended", core.figure(1), 2);
        DUE.same(what + ", x3", core.reg(3), 0);
    }

    private static void noInstruction(int word) {
        trapped("word " + word, word, 1, 2, word);
    }

    private static void noInstructions() {
        int[] words = {0, -1, 1, 107, Asm.withI(103, 3, 1, 1, 8), Asm.withI(103, 3, 7, 1, 8),
            Asm.branch(2, 0, 0, 8), Asm.branch(3, 0, 0, 8), Asm.read(3, 3, 0, 1024),
            Asm.read(6, 3, 0, 1024), Asm.read(7, 3, 0, 1024), Asm.write(3, 2, 0, 1024),
            Asm.write(4, 2, 0, 1024), Asm.write(5, 2, 0, 1024), Asm.write(7, 2, 0, 1024),
            Asm.parts(19, 3, 1, 1, 1, 32), Asm.parts(19, 3, 1, 1, 1, 1), Asm.parts(19, 3, 5, 1, 1, 1),
            Asm.parts(19, 3, 5, 1, 1, 33), Asm.parts(19, 3, 5, 1, 1, 64),
            Asm.parts(51, 3, 1, 1, 2, 32), Asm.parts(51, 3, 4, 1, 2, 32), Asm.parts(51, 3, 7, 1, 2, 32),
            Asm.parts(51, 3, 0, 1, 2, 2), Asm.parts(51, 3, 0, 1, 2, 33), Asm.parts(51, 3, 0, 1, 2, 127),
            Asm.control(4, 3, 1, Asm.SCRATCH), Asm.control(1, 3, 1, 0), Asm.control(1, 3, 1, 769),
            Asm.control(2, 3, 0, 774), Asm.control(5, 3, 1, 831), Asm.control(6, 3, 1, 837),
            Asm.control(1, 3, 1, 4095), 115 | 1 << 7, 115 | 2 << 20, Asm.RETURN | 1 << 7,
            Asm.WAIT | 1 << 15};
        for (int word : words) {
            noInstruction(word);
        }
    }

    private static void otherTraps() {
        trapped("call", Asm.ECALL, 1, 11, 0);
        trapped("break", Asm.EBREAK, 1, 3, 0);
        trapped("crooked op 111", Asm.jump(3, 6), 1, 0, 14);
        trapped("crooked op 111", Asm.jump(3, -6), 1, 0, 2);
        trapped("crooked op 103", Asm.jumpTo(3, 1, 0), 103, 0, 102);
        trapped("crooked op 103", Asm.jumpTo(3, 1, 2), -4, 0, -2);
        trapped("crooked op 99", Asm.branch(1, 1, 0, -10), 1, 0, -2);
        trapped("crooked word", Asm.read(2, 3, 1, 0), 1026, 4, 1026);
        trapped("crooked word", Asm.read(2, 3, 1, 0), 1025, 4, 1025);
        trapped("crooked half", Asm.read(1, 3, 1, 0), 1027, 4, 1027);
        trapped("crooked half", Asm.read(5, 3, 1, 0), 1279, 4, 1279);
        trapped("crooked and no data", Asm.read(2, 3, 1, 0), 1, 4, 1);
        trapped("no data", Asm.read(2, 3, 1, 0), 1020, 5, 1020);
        trapped("no data", Asm.read(0, 3, 1, 0), 1023, 5, 1023);
        trapped("no data", Asm.read(4, 3, 1, 0), 1280, 5, 1280);
        trapped("no data", Asm.read(5, 3, 1, 2), -2, 5, 0);
        trapped("no data", Asm.read(2, 3, 1, 0), MIN, 5, MIN);
        trapped("crooked write", Asm.write(2, 2, 1, 0), 1030, 6, 1030);
        trapped("crooked write", Asm.write(1, 2, 1, 0), 1029, 6, 1029);
        trapped("crooked write and no data", Asm.write(1, 2, 1, 0), -1, 6, -1);
        trapped("write, no data", Asm.write(0, 2, 1, 0), 1023, 7, 1023);
        trapped("write, no data", Asm.write(1, 2, 1, 0), 1280, 7, 1280);
        trapped("write, no data", Asm.write(2, 2, 1, -4), MIN + 4, 7, MIN);
        noCode(512);
        noCode(1024);
        noCode(-4);
        noCode(MIN);
    }

    private static void noCode(int address) {
        PipelinedCore core = Programs.around(Asm.jumpTo(3, 1, 0), address, 0);
        core.run(ONCE);
        DUE.same("cause at " + address, core.control(Asm.CAUSE), 1);
        DUE.same("value at " + address, core.control(Asm.VALUE), address);
        DUE.same("return at " + address, core.control(Asm.RETURN_TO), address);
        DUE.same("link at " + address, core.reg(3), 12);
    }

    /** ON and WAS ON through a trap and a return, from each of the four. */
    private static void statusOfTraps() {
        for (int i = 0; i < 4; i++) {
            int status = 8 * (i & 1) + 128 * (i >> 1);
            PipelinedCore core = Programs.core(1, Asm.set(1, status),
                Asm.control(1, 0, 1, Asm.STATUS), Asm.control(5, 0, 23, Asm.VECTOR), Asm.ECALL, 0,
                Asm.control(2, 2, 0, Asm.STATUS), Asm.control(5, 0, 31, Asm.RETURN_TO), Asm.RETURN);
            core.run(5);
            DUE.same("status set", core.control(Asm.STATUS), status);
            core.run(1);
            DUE.same("in the trap", core.control(Asm.STATUS), 128 * (i & 1));
            DUE.same("VECTOR keeps its bits", core.control(Asm.VECTOR), 23);
            core.run(3);
            DUE.same("20 is where VECTOR points", core.stage(2), 20);
            core.run(1);
            DUE.same("RETURN loses its bits", core.control(Asm.RETURN_TO), 28);
            core.run(1);
            DUE.same("returned", core.control(Asm.STATUS), 128 + 8 * (i & 1));
            DUE.same("read in the trap", core.reg(2), 128 * (i & 1));
        }
    }

    private static void whatTrapsDoesNothing() {
        PipelinedCore jump = Programs.around(Asm.jump(3, 6), 0, 0);
        jump.run(90);
        DUE.same("a jump that traps leaves the entries", jump.foretold(8), 12);
        DUE.same("a jump that traps is not foretold wrongly", jump.figure(5), 0);
        DUE.same("a jump that traps sets no register", jump.reg(3), 0);
    }

    private static void interrupted(int mask, int enabled, int vector, int line) {
        PipelinedCore core = Programs.core(1, Asm.read(2, 1, 0, 1024),
            Asm.control(1, 0, 1, Asm.ENABLED), Asm.set(2, vector),
            Asm.control(1, 0, 2, Asm.VECTOR), Asm.control(5, 0, 8, Asm.STATUS), Asm.set(3, 1),
            Asm.jump(0, 0));
        for (int n = 100; n < 128; n++) {
            core.code(n, Asm.jump(0, 0));
        }
        core.data(1024, enabled);
        core.lines(mask);
        core.run(40);
        String what = "lines " + mask + " of " + enabled + ", vector " + vector;
        int handler = (vector & -4) + (vector & 1) * 4 * line;
        DUE.same(what + ", not begun", core.figure(4), line == 0 ? 0 : 1);
        DUE.same(what + ", trapped", core.figure(3), 0);
        DUE.same(what + ", x3", core.reg(3), line == 0 ? 1 : 0);
        DUE.same(what + ", status", core.control(Asm.STATUS), line == 0 ? 8 : 128);
        DUE.same(what + ", cause", core.control(Asm.CAUSE), line == 0 ? 0 : MIN + line);
        DUE.same(what + ", return", core.control(Asm.RETURN_TO), line == 0 ? 0 : 20);
        DUE.same(what + ", is at", core.ended(0, 0), line == 0 ? 24 : handler);
    }

    private static void interrupts() {
        int[] masks = {0, 8, 128, 2048, 136, 2056, 2176, 2184};
        for (int mask : masks) {
            for (int enabled : masks) {
                int both = mask & enabled;
                int line = both >= 2048 ? 11 : (both & 8) != 0 ? 3 : both == 128 ? 7 : 0;
                interrupted(mask, enabled, 400, line);
                interrupted(mask, enabled, 402, line);
                interrupted(mask, enabled, 403, line);
            }
        }
        PipelinedCore off = Programs.core(1, Asm.control(5, 0, 8, Asm.ENABLED), Asm.jump(0, 0));
        off.lines(8);
        off.run(20);
        DUE.same("not ON", off.figure(4), 0);
    }

    private static void interruptBeforeTrap() {
        PipelinedCore core = Programs.core(1, Asm.control(5, 0, 16, Asm.VECTOR),
            Asm.control(5, 0, 8, Asm.ENABLED), Asm.control(5, 0, 8, Asm.STATUS), Asm.ECALL,
            Asm.jump(0, 0));
        core.lines(8);
        core.run(20);
        DUE.same("not begun", core.figure(4), 1);
        DUE.same("not trapped", core.figure(3), 0);
        DUE.same("cause", core.control(Asm.CAUSE), MIN + 3);
        DUE.same("value", core.control(Asm.VALUE), 0);
        DUE.same("return", core.control(Asm.RETURN_TO), 12);
        DUE.same("status", core.control(Asm.STATUS), 128);
    }

    private static void firstRegister() {
        int[] words = {Asm.set(0, 5), Asm.upper(0, 4096), Asm.jump(0, 4), Asm.read(2, 0, 0, 1024),
            Asm.control(1, 0, 1, Asm.SCRATCH), Asm.parts(51, 0, 0, 1, 1, 1)};
        for (int word : words) {
            PipelinedCore core = Programs.core(1, Asm.set(1, 9), Asm.control(5, 0, 9, Asm.SCRATCH),
                word, Asm.add(2, 0, 3), Asm.jump(0, 0));
            core.data(1024, 9);
            core.run(40);
            DUE.same("x0 after " + word, core.reg(0), 0);
            DUE.same("x0 used after " + word, core.reg(2), 3);
        }
    }
}
