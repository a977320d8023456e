/** Each sentence on traps and interrupts that names a boundary case, by a test of its own. */
final class TrapEdgesTest {
    private static final Due DUE = new Due();
    private static final int MIN = Integer.MIN_VALUE;
    private static final int MAX = Integer.MAX_VALUE;
    private static final int NO_TRAP = -1;

    /** By now the word at 8 has begun, and if it trapped, nothing after it has. */
    private static final int ONCE = 11;

    private TrapEdgesTest() {
    }

    public static void main(String[] args) {
        noSuchOp();
        noSuchF();
        noSuchG();
        noSuchControl();
        noSuchWholeWord();
        callAndBreak();
        endsOfTheCode();
        noCodeByEachWay();
        crookedNext();
        crookedNextOfABranchThatStays();
        readsAtEachAddress();
        writesAtEachAddress();
        farAddresses();
        doesNothingElse();
        bringsNoLine();
        leavesTheEntries();
        statusOfATrap();
        trapInATrap();
        vectorsOfTraps();
        noInterruptWithoutAllThree();
        firstOfTheLines();
        vectorsOfInterrupts();
        interruptBeforeATrap();
        notBegunDoesNothing();
        againAfterAReturn();
        DUE.close();
    }

    /** The word at 8, with x1 and x2 set, traps so or not at all. */
    private static void traps(String what, int word, int x1, int cause, int value) {
        PipelinedCore core = Programs.around(word, x1, 7);
        core.run(ONCE);
        boolean due = cause != NO_TRAP;
        DUE.same(what + ": traps", core.figure(3), due ? 1 : 0);
        DUE.same(what + ": CAUSE", core.control(Asm.CAUSE), due ? cause : 0);
        DUE.same(what + ": VALUE", core.control(Asm.VALUE), due ? value : 0);
        DUE.same(what + ": RETURN", core.control(Asm.RETURN_TO), due ? 8 : 0);
    }

    private static void isNone(int word) {
        traps("word " + word, word, 1, 2, word);
    }

    private static void isOne(int word) {
        traps("word " + word, word, 1, NO_TRAP, 0);
    }

    /** An instruction that is not one of these traps with the cause 2 and its word as the value. */
    private static void noSuchOp() {
        for (int op = 0; op < 128; op++) {
            boolean is = op == 3 || op == 15 || op == 19 || op == 23 || op == 35 || op == 51
                || op == 55 || op == 99 || op == 103 || op == 111 || op == 115;
            if (!is) {
                isNone(op);
                isNone(op | -128);
                isNone(Asm.withI(op, 3, 2, 0, 1024));
            }
        }
    }

    private static void noSuchF() {
        for (int f = 0; f < 8; f++) {
            check(f == 0, Asm.withI(103, 3, f, 0, 12));
            check(f != 2 && f != 3, Asm.branch(f, 0, 0, 4));
            check(f != 3 && f < 6, Asm.read(f, 3, 0, 1024));
            check(f < 3, Asm.write(f, 2, 0, 1024));
            check(f != 0 && f != 4, Asm.control(f, 3, 1, Asm.SCRATCH));
        }
    }

    private static void check(boolean is, int word) {
        if (is) {
            isOne(word);
        } else {
            isNone(word);
        }
    }

    /** All g with all f of op 51 and of op 19, where f 1 and 5 alone look at it. */
    private static void noSuchG() {
        for (int g = 0; g < 128; g++) {
            for (int f = 0; f < 8; f++) {
                boolean other = g == 32 && (f == 0 || f == 5);
                check(g == 0 || g == 1 || other, Asm.parts(51, 3, f, 1, 2, g));
                boolean looks = f == 1 || f == 5;
                check(!looks || g == 0 || g == 32 && f == 5, Asm.parts(19, 3, f, 1, 2, g));
            }
        }
    }

    /** I without its sign being the number: all 4096. */
    private static void noSuchControl() {
        for (int number = 0; number < 4096; number++) {
            boolean is = number == 768 || number == 772 || number == 773
                || number >= 832 && number <= 836;
            check(is, Asm.control(2 + number % 2 * 4, 3, 0, number));
        }
    }

    /** Of op 115 with f 0 there are four words; one bit more or less makes none of them. */
    private static void noSuchWholeWord() {
        int[] words = {Asm.ECALL, Asm.EBREAK, Asm.RETURN, Asm.WAIT};
        for (int word : words) {
            for (int bit = 7; bit < 32; bit++) {
                int near = word ^ 1 << bit;
                if ((near >> 12 & 7) == 0 && near != Asm.ECALL && near != Asm.EBREAK) {
                    isNone(near);
                }
            }
        }
    }

    private static void callAndBreak() {
        traps("the word 115", 115, 5, 11, 0);
        traps("the word 1048691", 1048691, 5, 3, 0);
    }

    /** Code is at 0 .. 508: what is at 508 is done, at 512 there is none, nor at -4. */
    private static void endsOfTheCode() {
        PipelinedCore last = Programs.core(1, Asm.jump(0, 508));
        last.code(127, Asm.set(1, 5));
        last.run(8);
        DUE.same("at 508", last.reg(1), 5);
        DUE.same("at 512: traps", last.figure(3), 1);
        DUE.same("at 512: CAUSE", last.control(Asm.CAUSE), 1);
        DUE.same("at 512: VALUE", last.control(Asm.VALUE), 512);
        DUE.same("at 512: RETURN", last.control(Asm.RETURN_TO), 512);
        int[] none = {512, 516, 1024, 1276, 65536, -4, -8, -508, -512, MIN, MIN + 4, MAX - 3};
        for (int address : none) {
            PipelinedCore core = Programs.around(Asm.jumpTo(3, 1, 0), address, 0);
            core.run(13);
            DUE.same("at " + address + ": traps", core.figure(3), 1);
            DUE.same("at " + address + ": CAUSE", core.control(Asm.CAUSE), 1);
            DUE.same("at " + address + ": VALUE", core.control(Asm.VALUE), address);
            DUE.same("at " + address + ": RETURN", core.control(Asm.RETURN_TO), address);
            DUE.same("at " + address + ": the jump itself was done", core.reg(3), 12);
        }
        PipelinedCore first = Programs.around(Asm.jumpTo(3, 1, 0), 0, 0);
        first.run(14);
        DUE.same("at 0: traps", first.figure(3), 0);
    }

    private static void noCode(String what, PipelinedCore core, int address) {
        DUE.same(what + ": CAUSE", core.control(Asm.CAUSE), 1);
        DUE.same(what + ": VALUE", core.control(Asm.VALUE), address);
        DUE.same(what + ": RETURN", core.control(Asm.RETURN_TO), address);
    }

    private static void noCodeByEachWay() {
        PipelinedCore jump = Programs.core(1, Asm.jump(0, -4));
        jump.run(6);
        noCode("by op 111", jump, -4);
        PipelinedCore branch = Programs.core(1, Asm.branch(0, 0, 0, 512));
        branch.run(6);
        noCode("by op 99", branch, 512);
        PipelinedCore back = Programs.core(1, Asm.set(1, 512), Asm.control(1, 0, 1, Asm.RETURN_TO),
            Asm.RETURN);
        back.run(8);
        noCode("by a return", back, 512);
        PipelinedCore vector = Programs.core(1, Asm.set(1, 512), Asm.control(1, 0, 1, Asm.VECTOR),
            Asm.ECALL);
        vector.run(5);
        DUE.same("at a VECTOR of no code: the first", vector.control(Asm.CAUSE), 11);
        vector.run(3);
        noCode("at a VECTOR of no code", vector, 512);
        vector.run(30);
        DUE.same("and again every third cycle", vector.figure(3), 12);
    }

    /** Also just outside the code: what goes there is looked at first. */
    private static void crookedNext() {
        int[] ways = {2, 6, -2, -6, 498, 502, 506, -10, -14};
        for (int by : ways) {
            traps("op 111 by " + by, Asm.jump(3, by), 1, 0, 8 + by);
            traps("op 99 by " + by, Asm.branch(0, 0, 0, by), 1, 0, 8 + by);
            traps("op 103 to " + by, Asm.jumpTo(3, 1, by), 0, 0, by);
            traps("op 103 to " + by + " and 1", Asm.jumpTo(3, 1, by), 1, 0, by);
        }
        traps("op 103 to the most", Asm.jumpTo(3, 1, 0), MAX, 0, MAX - 1);
        traps("op 103 to the least and 2", Asm.jumpTo(3, 1, 2), MIN, 0, MIN + 2);
    }

    private static void crookedNextOfABranchThatStays() {
        int[] notHeld = {Asm.branch(1, 0, 0, 2), Asm.branch(0, 1, 0, 2), Asm.branch(4, 0, 0, 6),
            Asm.branch(5, 0, 1, 6), Asm.branch(6, 0, 0, -2), Asm.branch(7, 0, 1, -2)};
        for (int word : notHeld) {
            PipelinedCore core = Programs.around(word, 3, 0);
            core.run(30);
            DUE.same("word " + word + ": traps", core.figure(3), 0);
            DUE.same("word " + word + ": goes on", core.ended(0, 0), 12);
        }
    }

    /** The multiple is looked at first, then whether there are data. */
    private static int causeAt(int address, int size, int crooked, int none) {
        if ((address & size - 1) != 0) {
            return crooked;
        }
        return address < 1024 || address > 1279 ? none : NO_TRAP;
    }

    private static void readsAt(int address) {
        int[] all = {0, 1, 2, 4, 5};
        for (int f : all) {
            traps("read " + f + " at " + address, Asm.read(f, 3, 1, 0), address,
                causeAt(address, 1 << (f & 3), 4, 5), address);
        }
    }

    private static void writesAt(int address) {
        for (int f = 0; f < 3; f++) {
            traps("write " + f + " at " + address, Asm.write(f, 2, 1, 0), address,
                causeAt(address, 1 << f, 6, 7), address);
        }
    }

    private static void readsAtEachAddress() {
        for (int address = 1015; address < 1290; address++) {
            readsAt(address);
        }
    }

    private static void writesAtEachAddress() {
        for (int address = 1015; address < 1290; address++) {
            writesAt(address);
        }
    }

    private static void farAddresses() {
        int[] far = {0, 1, 2, 3, 4, 252, 508, 512, 2048, 65536 + 1024, -1, -2, -3, -4, -1024, MIN,
            MIN + 1, MIN + 2, MIN + 1024, MAX, MAX - 1, MAX - 3};
        for (int address : far) {
            readsAt(address);
            writesAt(address);
        }
    }

    /** What traps does nothing else: registers, data and the list are as before. */
    private static void doesNothingElse() {
        int[] words = {Asm.jump(3, 6), Asm.jumpTo(3, 0, 6), Asm.branch(0, 0, 0, 6),
            Asm.read(2, 3, 0, 1026), Asm.read(0, 3, 0, 1023), Asm.read(1, 3, 0, 1280),
            Asm.write(2, 2, 0, 1026), Asm.write(1, 2, 0, 1027), Asm.write(0, 2, 0, 1280), Asm.ECALL,
            Asm.EBREAK, Asm.parts(51, 3, 0, 1, 2, 2), Asm.control(1, 3, 1, 837),
            Asm.control(4, 3, 1, Asm.SCRATCH)};
        for (int word : words) {
            PipelinedCore core = Programs.around(word, 5, 6);
            core.run(ONCE);
            DUE.same("word " + word + ": traps", core.figure(3), 1);
            DUE.same("word " + word + ": ended", core.figure(1), 2);
            DUE.same("word " + word + ": the last that ended", core.ended(0, 0), 4);
            DUE.same("word " + word + ": x3", core.reg(3), 0);
            DUE.same("word " + word + ": word 1024", core.word(1024), 5);
            DUE.same("word " + word + ": word 1028", core.word(1028), 6);
            DUE.same("word " + word + ": word 1276", core.word(1276), 0);
            DUE.same("word " + word + ": SCRATCH", core.control(Asm.SCRATCH), 0);
            DUE.same("word " + word + ": VECTOR", core.control(Asm.VECTOR), 0);
            DUE.same("word " + word + ": stage 2", core.stage(2), -1);
        }
    }

    /** The handler reads the line that the crooked one would have read. */
    private static void bringsNoLine() {
        int[] words = {Asm.read(2, 1, 0, 1026), Asm.write(2, 0, 0, 1026), Asm.read(1, 1, 0, 1025)};
        for (int word : words) {
            PipelinedCore core = Programs.core(2, Asm.control(5, 0, 12, Asm.VECTOR), word, 0,
                Asm.read(2, 1, 0, 1024), Asm.read(2, 1, 0, 1088));
            Programs.ends(DUE, "after " + word, core, 0, 5, 12, 17, 16, 26);
            DUE.same("after " + word + ": lines not in the cache", core.figure(2), 2);
        }
    }

    /** The one at 16 traps where the entry of the jump at 0 is. */
    private static void leavesTheEntries() {
        int[] words = {Asm.jump(0, 6), Asm.jumpTo(0, 0, 6), Asm.branch(0, 0, 0, 6),
            Asm.branch(2, 0, 0, 4), Asm.withI(103, 0, 1, 0, 16)};
        for (int word : words) {
            PipelinedCore core = Programs.core(1, Asm.jump(0, 16), 0, 0, 0, word);
            core.run(6);
            DUE.same("after " + word + ": traps", core.figure(3), 1);
            DUE.same("after " + word + ": foretold 0", core.foretold(0), 16);
            DUE.same("after " + word + ": foretold 16", core.foretold(16), 20);
            DUE.same("after " + word + ": wrongly", core.figure(5), 1);
            core.run(40);
            DUE.same("later: wrongly", core.figure(5), 1);
        }
    }

    /** WAS ON becomes ON, and ON becomes 0. */
    private static void statusOfATrap() {
        int[][] due = {{0, 0}, {8, 128}, {128, 0}, {136, 128}};
        for (int[] row : due) {
            PipelinedCore core = Programs.core(1, Asm.set(1, row[0]),
                Asm.control(1, 0, 1, Asm.STATUS), Asm.ECALL);
            core.run(4);
            DUE.same("before a trap", core.control(Asm.STATUS), row[0]);
            core.run(1);
            DUE.same("after a trap", core.control(Asm.STATUS), row[1]);
        }
    }

    private static void trapInATrap() {
        PipelinedCore core = Programs.core(1, Asm.control(5, 0, 16, Asm.VECTOR),
            Asm.control(5, 0, 8, Asm.STATUS), Asm.EBREAK, 0, -1);
        core.run(5);
        DUE.same("the first: CAUSE", core.control(Asm.CAUSE), 3);
        DUE.same("the first: RETURN", core.control(Asm.RETURN_TO), 8);
        DUE.same("the first: STATUS", core.control(Asm.STATUS), 128);
        core.run(3);
        DUE.same("the second: traps", core.figure(3), 2);
        DUE.same("the second: CAUSE", core.control(Asm.CAUSE), 2);
        DUE.same("the second: VALUE", core.control(Asm.VALUE), -1);
        DUE.same("the second: RETURN", core.control(Asm.RETURN_TO), 16);
        DUE.same("the second: STATUS", core.control(Asm.STATUS), 0);
    }

    /** A trap goes to VECTOR with its bits 0 and 1 made 0, whatever bit 0 is. */
    private static void vectorsOfTraps() {
        for (int more = 0; more < 4; more++) {
            PipelinedCore core = Programs.core(1, Asm.control(5, 0, 16 + more, Asm.VECTOR),
                Asm.ECALL, 0, 0, Asm.jump(0, 0));
            core.run(7);
            DUE.same("VECTOR " + (16 + more), core.stage(2), 16);
            DUE.same("VECTOR " + (16 + more) + " stays", core.control(Asm.VECTOR), 16 + more);
        }
    }

    /** VECTOR is 400 and more, x1 what is enabled; STATUS is set in cycle 11 at the latest. */
    private static PipelinedCore interrupted(int status, int enabled, int vector, int mask) {
        PipelinedCore core = Programs.core(1, Asm.read(2, 1, 0, 1024), Asm.read(2, 2, 0, 1028),
            Asm.read(2, 3, 0, 1032), Asm.control(1, 0, 1, Asm.ENABLED),
            Asm.control(1, 0, 2, Asm.VECTOR), Asm.control(1, 0, 3, Asm.STATUS), Asm.add(4, 4, 1),
            Asm.jump(0, 0));
        core.data(1024, enabled);
        core.data(1028, vector);
        core.data(1032, status);
        for (int n = 100; n < 128; n++) {
            core.code(n, Asm.jump(0, 0));
        }
        core.lines(mask);
        core.run(40);
        return core;
    }

    private static void noInterrupt(int status, int enabled, int mask) {
        PipelinedCore core = interrupted(status, enabled, 400, mask);
        String what = "STATUS " + status + ", ENABLED " + enabled + ", LINES " + mask;
        DUE.same(what + ": not begun", core.figure(4), 0);
        DUE.same(what + ": x4", core.reg(4), 1);
        DUE.same(what + ": CAUSE", core.control(Asm.CAUSE), 0);
        DUE.same(what + ": is at", core.ended(0, 0), 28);
    }

    private static void noInterruptWithoutAllThree() {
        int[] masks = {0, 8, 128, 136, 2048, 2056, 2176, 2184};
        for (int mask : masks) {
            noInterrupt(0, mask, mask);
            noInterrupt(128, mask, mask);
            noInterrupt(136, mask, 2184 & ~mask);
            noInterrupt(8, 2184 & ~mask, mask);
        }
    }

    /** 11 before 3 before 7, of the bits that LINES and ENABLED have together. */
    private static void firstOfTheLines() {
        int[][] due = {{8, 2184, 3}, {128, 2184, 7}, {2048, 2184, 11}, {136, 2184, 3},
            {2056, 2184, 11}, {2176, 2184, 11}, {2184, 2184, 11}, {2184, 136, 3}, {2184, 128, 7},
            {2184, 2176, 11}, {2184, 8, 3}, {136, 2176, 7}};
        for (int[] row : due) {
            PipelinedCore core = interrupted(8, row[1], 400, row[0]);
            String what = "LINES " + row[0] + ", ENABLED " + row[1];
            DUE.same(what + ": CAUSE", core.control(Asm.CAUSE), MIN + row[2]);
            DUE.same(what + ": VALUE", core.control(Asm.VALUE), 0);
            DUE.same(what + ": RETURN", core.control(Asm.RETURN_TO), 24);
            DUE.same(what + ": STATUS", core.control(Asm.STATUS), 128);
            DUE.same(what + ": not begun", core.figure(4), 1);
            DUE.same(what + ": is at", core.ended(0, 0), 400);
        }
    }

    private static void vectorsOfInterrupts() {
        int[][] lines = {{8, 3}, {128, 7}, {2048, 11}};
        for (int[] line : lines) {
            for (int more = 0; more < 4; more++) {
                PipelinedCore core = interrupted(8, 2184, 400 + more, line[0]);
                int due = more % 2 == 0 ? 400 : 400 + 4 * line[1];
                DUE.same("line " + line[1] + ", VECTOR " + (400 + more), core.ended(0, 0), due);
            }
        }
        PipelinedCore out = interrupted(8, 2184, -40, 2048);
        DUE.same("VECTOR -40: CAUSE", out.control(Asm.CAUSE), 1);
        DUE.same("VECTOR -40: VALUE", out.control(Asm.VALUE), -40);
        PipelinedCore wraps = interrupted(8, 2184, -15, 2048);
        DUE.same("44 behind -16: CAUSE", wraps.control(Asm.CAUSE), MIN + 11);
        DUE.same("44 behind -16: traps", wraps.figure(3), 0);
        DUE.same("44 behind -16: is at", wraps.ended(0, 0), 28);
        DUE.same("44 behind -16: x4", wraps.reg(4), 0);
    }

    /** It does not begin, so it does not trap; not even where there is no code. */
    private static void interruptBeforeATrap() {
        int[] words = {Asm.ECALL, 0, Asm.read(2, 1, 0, 1026), Asm.jump(0, 2)};
        for (int word : words) {
            PipelinedCore core = Programs.core(1, Asm.control(5, 0, 20, Asm.VECTOR),
                Asm.control(5, 0, 8, Asm.ENABLED), Asm.control(5, 0, 8, Asm.STATUS), word, 0,
                Asm.jump(0, 0));
            core.lines(8);
            core.run(20);
            DUE.same("before " + word + ": traps", core.figure(3), 0);
            DUE.same("before " + word + ": not begun", core.figure(4), 1);
            DUE.same("before " + word + ": CAUSE", core.control(Asm.CAUSE), MIN + 3);
            DUE.same("before " + word + ": RETURN", core.control(Asm.RETURN_TO), 12);
        }
        PipelinedCore out = Programs.core(1, Asm.control(5, 0, 20, Asm.VECTOR),
            Asm.control(5, 0, 8, Asm.ENABLED), Asm.control(5, 0, 8, Asm.STATUS), Asm.jump(0, 500), 0,
            Asm.jump(0, 0));
        out.run(6);
        out.lines(8);
        out.run(10);
        DUE.same("before no code: traps", out.figure(3), 0);
        DUE.same("before no code: CAUSE", out.control(Asm.CAUSE), MIN + 3);
        DUE.same("before no code: VALUE", out.control(Asm.VALUE), 0);
        DUE.same("before no code: RETURN", out.control(Asm.RETURN_TO), 512);
    }

    /** As one that traps: no register, no data, no entry, no control register of its own. */
    private static void notBegunDoesNothing() {
        int[] words = {Asm.set(1, 5), Asm.write(2, 2, 0, 1024), Asm.jump(1, 60),
            Asm.control(5, 1, 9, Asm.SCRATCH), Asm.RETURN, Asm.branch(0, 0, 0, 60)};
        for (int word : words) {
            PipelinedCore core = Programs.core(1, Asm.set(2, 7),
                Asm.control(5, 0, 28, Asm.VECTOR), Asm.control(5, 0, 8, Asm.ENABLED),
                Asm.control(5, 0, 8, Asm.STATUS), word, 0, 0, Asm.jump(0, 0));
            core.lines(8);
            core.run(7);
            DUE.same("word " + word + ": not begun", core.figure(4), 1);
            DUE.same("word " + word + ": stage 2", core.stage(2), -1);
            DUE.same("word " + word + ": foretold", core.foretold(16), 20);
            DUE.same("word " + word + ": wrongly", core.figure(5), 0);
            core.run(40);
            DUE.same("word " + word + ": x1", core.reg(1), 0);
            DUE.same("word " + word + ": word 1024", core.word(1024), 0);
            DUE.same("word " + word + ": SCRATCH", core.control(Asm.SCRATCH), 0);
            DUE.same("word " + word + ": STATUS", core.control(Asm.STATUS), 128);
            DUE.same("word " + word + ": RETURN", core.control(Asm.RETURN_TO), 16);
            DUE.same("word " + word + ": lines not in the cache", core.figure(2), 0);
        }
    }

    /** The line is still set when the handler returns: the same one fails to begin again. */
    private static void againAfterAReturn() {
        PipelinedCore core = Programs.core(1, Asm.control(5, 0, 20, Asm.VECTOR),
            Asm.control(5, 0, 8, Asm.ENABLED), Asm.control(5, 0, 8, Asm.STATUS), Asm.set(1, 5),
            Asm.jump(0, 0), Asm.RETURN);
        core.lines(8);
        core.run(30);
        DUE.same("again and again: not begun", core.figure(4), 5);
        DUE.same("again and again: RETURN", core.control(Asm.RETURN_TO), 12);
        DUE.same("again and again: x1", core.reg(1), 0);
        core.lines(0);
        core.run(20);
        DUE.same("with no line: x1", core.reg(1), 5);
        DUE.same("with no line: STATUS", core.control(Asm.STATUS), 136);
        DUE.same("with no line: not begun", core.figure(4), 5);
    }
}
