/** Each sentence of the promises that names a boundary case, by a test of its own. */
final class PromiseEdgesTest {
    private static final Due DUE = new Due();
    private static final int BAD = -1;
    private static final int MIN = Integer.MIN_VALUE;
    private static final int MAX = Integer.MAX_VALUE;
    private static final int COUNT_UP = Asm.add(1, 1, 1);

    private PromiseEdgesTest() {
    }

    public static void main(String[] args) {
        newCodeIsZero();
        newDataAndRegistersAreZero();
        newHasNoLineSet();
        newHasNoCyclePassed();
        latencyIsOneWhenLess();
        latencyIsEightWhenGreater();
        codeAtItsEnds();
        codeOutsideChangesNothing();
        codeAfterACycleChangesNothing();
        dataAtTheirEnds();
        dataOutsideChangeNothing();
        dataAfterACycleChangeNothing();
        linesOfOtherBitsChangeNothing();
        linesAreSeenAtOnce();
        linesWorkFromTheNextCycleOn();
        runOutsideMakesNoCycle();
        runAtItsEnds();
        runCountsWhatEndedInIt();
        registersAtTheirEnds();
        noSuchRegister();
        noSuchControl();
        noSuchWord();
        wordOnlyOfThoseThatEnded();
        noneEndedYet();
        sixteenAreKept();
        endedOfNeither();
        endedLeavesOutTraps();
        stagesFromAndTo();
        noSuchStage();
        foretoldByAnEmptyEntry();
        foretoldByAnEntryOfAnother();
        foretoldAtTheEndOfTheLatestCycle();
        figuresCountedInE();
        figuresCountedInW();
        noSuchFigure();
        fiveHundredAndTwelveCalls();
        DUE.close();
    }

    private static PipelinedCore countingUp() {
        PipelinedCore core = new PipelinedCore(1);
        for (int n = 0; n < 128; n++) {
            core.code(n, COUNT_UP);
        }
        return core;
    }

    /** All 128 words were done, and what comes behind them is no code. */
    private static void hasCountedUp(String what, PipelinedCore core) {
        Programs.pass(core, 132 - core.figure(0));
        DUE.same(what + ": x1", core.reg(1), 128);
        DUE.same(what + ": traps", core.figure(3), 1);
        DUE.same(what + ": RETURN", core.control(Asm.RETURN_TO), 512);
        DUE.same(what + ": CAUSE", core.control(Asm.CAUSE), 1);
    }

    /** Promise 1: all words 0. The word 0 is no instruction. */
    private static void newCodeIsZero() {
        for (int n = 1; n < 128; n++) {
            PipelinedCore core = Programs.core(1, Asm.jump(0, 4 * n));
            core.run(6);
            DUE.same("new code " + n + ": CAUSE", core.control(Asm.CAUSE), 2);
            DUE.same("new code " + n + ": VALUE", core.control(Asm.VALUE), 0);
            DUE.same("new code " + n + ": RETURN", core.control(Asm.RETURN_TO), 4 * n);
        }
        PipelinedCore bare = new PipelinedCore(1);
        bare.run(3);
        DUE.same("new code 0: CAUSE", bare.control(Asm.CAUSE), 2);
        DUE.same("new code 0: VALUE", bare.control(Asm.VALUE), 0);
    }

    /** Promise 1: all words 0. */
    private static void newDataAndRegistersAreZero() {
        PipelinedCore core = new PipelinedCore(1);
        for (int address = 1024; address <= 1276; address += 4) {
            DUE.same("new: word " + address, core.word(address), 0);
        }
        for (int i = 0; i < 32; i++) {
            DUE.same("new: reg " + i, core.reg(i), 0);
        }
        for (int number : Asm.CONTROLS) {
            DUE.same("new: control " + number, core.control(number), 0);
        }
    }

    /** Promise 1: no line set. */
    private static void newHasNoLineSet() {
        PipelinedCore core = Programs.core(1, Asm.set(1, -1), Asm.control(1, 0, 1, Asm.ENABLED),
            Asm.control(6, 0, 8, Asm.STATUS), Asm.control(2, 2, 0, Asm.LINES), Asm.jump(0, 0));
        DUE.same("new: LINES", core.control(Asm.LINES), 0);
        core.run(50);
        DUE.same("new: none fails to begin", core.figure(4), 0);
        DUE.same("new: LINES read", core.reg(2), 0);
    }

    /** Promise 1: no cycle passed. */
    private static void newHasNoCyclePassed() {
        PipelinedCore core = new PipelinedCore(1);
        DUE.same("new: cycles", core.figure(0), 0);
        DUE.holds("new: code is taken", core.code(0, 0));
        DUE.holds("new: data are taken", core.data(1024, 0));
        for (int stage = 2; stage <= 4; stage++) {
            DUE.same("new: stage " + stage, core.stage(stage), BAD);
        }
        DUE.same("new: ended", core.ended(0, 0), BAD);
    }

    /** The first line is written, then must give way: one wait, then two. */
    private static void waits(int given, int latency) {
        PipelinedCore core = Programs.core(given, Asm.write(2, 0, 0, 1024),
            Asm.read(2, 1, 0, 1088));
        int first = 5 + 4 * latency;
        Programs.ends(DUE, "latency " + given, core, 0, first, 4, first + 1 + 8 * latency);
    }

    private static void latencyIsOneWhenLess() {
        waits(1, 1);
        waits(0, 1);
        waits(-1, 1);
        waits(-8, 1);
        waits(MIN, 1);
    }

    private static void latencyIsEightWhenGreater() {
        waits(2, 2);
        waits(7, 7);
        waits(8, 8);
        waits(9, 8);
        waits(16, 8);
        waits(MAX, 8);
    }

    /** Promise 2: n is 0 .. 127. */
    private static void codeAtItsEnds() {
        PipelinedCore core = new PipelinedCore(1);
        DUE.holds("code 0", core.code(0, Asm.jump(2, 508)));
        DUE.holds("code 127", core.code(127, Asm.set(1, 9)));
        DUE.holds("code 127 again", core.code(127, Asm.set(1, 7)));
        core.run(8);
        DUE.same("code 0 was done", core.reg(2), 4);
        DUE.same("code 127 was done", core.reg(1), 7);
        DUE.same("code 127 is at 508", core.ended(0, 0), 508);
    }

    private static void codeOutsideChangesNothing() {
        PipelinedCore core = countingUp();
        int[] outside = {-1, -2, -128, MIN, MIN + 127, 128, 129, 255, 256, 512, MAX};
        for (int n : outside) {
            DUE.fails("code " + n, core.code(n, 0));
        }
        hasCountedUp("after code outside", core);
    }

    private static void codeAfterACycleChangesNothing() {
        PipelinedCore core = countingUp();
        DUE.same("run 0", core.run(0), BAD);
        DUE.same("run 101", core.run(101), BAD);
        DUE.holds("no cycle has passed yet", core.code(0, COUNT_UP));
        core.run(1);
        for (int n = -1; n <= 128; n++) {
            DUE.fails("code " + n + " after a cycle", core.code(n, 0));
        }
        hasCountedUp("after code after a cycle", core);
    }

    private static PipelinedCore withData() {
        PipelinedCore core = Programs.core(1, Asm.jump(0, 0));
        for (int address = 1024; address <= 1276; address += 4) {
            core.data(address, 7 * address);
        }
        return core;
    }

    private static void hasItsData(String what, PipelinedCore core) {
        for (int address = 1024; address <= 1276; address += 4) {
            DUE.same(what + ": word " + address, core.word(address), 7 * address);
        }
    }

    /** Promise 3: there are words at 1024 .. 1276. */
    private static void dataAtTheirEnds() {
        PipelinedCore core = new PipelinedCore(1);
        DUE.holds("data 1024", core.data(1024, MIN));
        DUE.holds("data 1276", core.data(1276, MAX));
        DUE.same("word 1024", core.word(1024), MIN);
        DUE.same("word 1276", core.word(1276), MAX);
        DUE.holds("data 1276 again", core.data(1276, -1));
        DUE.same("word 1276 again", core.word(1276), -1);
        DUE.same("word 1028", core.word(1028), 0);
        DUE.same("word 1272", core.word(1272), 0);
    }

    private static void dataOutsideChangeNothing() {
        PipelinedCore core = withData();
        int[] outside = {1020, 1023, 1280, 1284, 0, 4, 63, 256, 508, -4, -1024, 2048, MIN, MAX,
            MIN + 1024, MAX - 3};
        for (int address : outside) {
            DUE.fails("data " + address, core.data(address, -1));
        }
        for (int address = 1024; address < 1280; address += 12) {
            for (int more = 1; more < 4; more++) {
                DUE.fails("data " + (address + more), core.data(address + more, -1));
            }
        }
        hasItsData("after data outside", core);
    }

    private static void dataAfterACycleChangeNothing() {
        PipelinedCore core = withData();
        DUE.same("run 0", core.run(0), BAD);
        DUE.holds("no cycle has passed yet", core.data(1024, 7 * 1024));
        core.run(1);
        for (int address = 1020; address <= 1280; address += 4) {
            DUE.fails("data " + address + " after a cycle", core.data(address, -1));
        }
        DUE.fails("data 1025 after a cycle", core.data(1025, -1));
        hasItsData("after data after a cycle", core);
    }

    /** Promise 4: false, changing nothing, when mask has other bits than 3, 7 and 11. */
    private static void linesOfOtherBitsChangeNothing() {
        for (int bit = 0; bit < 32; bit++) {
            if (bit == 3 || bit == 7 || bit == 11) {
                continue;
            }
            PipelinedCore core = Programs.core(1, Asm.jump(0, 0));
            DUE.holds("lines 136", core.lines(136));
            int[] masks = {0, 8, 128, 2048, 2184};
            for (int mask : masks) {
                DUE.fails("bit " + bit + " and " + mask, core.lines(1 << bit | mask));
                DUE.same("bit " + bit + " and " + mask + ": LINES", core.control(Asm.LINES), 136);
            }
        }
        PipelinedCore core = Programs.core(1, Asm.jump(0, 0));
        core.lines(2048);
        int[] others = {-1, 1, MAX, ~2184, -2184, 2185, 4095};
        for (int mask : others) {
            DUE.fails("lines " + mask, core.lines(mask));
            DUE.same("lines " + mask + ": LINES", core.control(Asm.LINES), 2048);
        }
    }

    private static void linesAreSeenAtOnce() {
        PipelinedCore core = Programs.core(1, Asm.jump(0, 0));
        int[] masks = {8, 128, 2048, 2184, 0, 136, 2056, 2176};
        for (int mask : masks) {
            DUE.holds("lines " + mask, core.lines(mask));
            DUE.same("lines " + mask + " before a cycle", core.control(Asm.LINES), mask);
        }
        core.run(10);
        for (int mask : masks) {
            DUE.holds("lines " + mask, core.lines(mask));
            DUE.same("lines " + mask + " between cycles", core.control(Asm.LINES), mask);
        }
        DUE.same("no cycle passed by them", core.figure(0), 10);
    }

    private static PipelinedCore waiting() {
        PipelinedCore core = Programs.core(1, Asm.control(5, 0, 28, Asm.VECTOR),
            Asm.control(5, 0, 8, Asm.ENABLED), Asm.control(5, 0, 8, Asm.STATUS), COUNT_UP, COUNT_UP,
            COUNT_UP, Asm.jump(0, 0), Asm.jump(0, 0));
        core.run(6);
        return core;
    }

    /** The first that counts begins in cycle 6, the second in 7. */
    private static void linesWorkFromTheNextCycleOn() {
        PipelinedCore core = waiting();
        core.lines(8);
        DUE.same("not at once: not begun", core.figure(4), 0);
        DUE.same("not at once: stage 2", core.stage(2), 12);
        DUE.same("not at once: STATUS", core.control(Asm.STATUS), 8);
        core.run(1);
        DUE.same("from the next cycle on: not begun", core.figure(4), 1);
        DUE.same("from the next cycle on: RETURN", core.control(Asm.RETURN_TO), 16);
        core.run(10);
        DUE.same("what had begun was done", core.reg(1), 1);

        PipelinedCore taken = waiting();
        taken.lines(8);
        taken.lines(0);
        taken.run(10);
        DUE.same("taken back before the next cycle", taken.figure(4), 0);
        DUE.same("taken back before the next cycle: x1", taken.reg(1), 3);
    }

    /** Promise 5: BAD when n is not 1 .. 100. */
    private static void runOutsideMakesNoCycle() {
        int[] outside = {0, -1, -2, -100, 101, 102, 200, 256 + 1, MIN, MIN + 1, MAX};
        for (int cycles = 0; cycles <= 7; cycles += 7) {
            PipelinedCore core = countingUp();
            Programs.pass(core, cycles);
            for (int n : outside) {
                DUE.same("run " + n, core.run(n), BAD);
                DUE.same("run " + n + ": cycles", core.figure(0), cycles);
                DUE.same("run " + n + ": x1", core.reg(1), cycles == 0 ? 0 : 3);
                DUE.same("run " + n + ": stage 2", core.stage(2), cycles == 0 ? BAD : 16);
                DUE.same("run " + n + ": ended", core.ended(0, 0), cycles == 0 ? BAD : 8);
            }
            hasCountedUp("after run outside", core);
        }
    }

    private static void runAtItsEnds() {
        PipelinedCore one = countingUp();
        DUE.same("run 1", one.run(1), 0);
        DUE.same("run 1: cycles", one.figure(0), 1);
        PipelinedCore most = countingUp();
        DUE.same("run 100", most.run(100), 96);
        DUE.same("run 100: cycles", most.figure(0), 100);
        DUE.same("run 100: x1", most.reg(1), 96);
        PipelinedCore less = countingUp();
        DUE.same("run 99", less.run(99), 95);
    }

    private static void runCountsWhatEndedInIt() {
        PipelinedCore core = countingUp();
        DUE.same("none ended before the fifth", core.run(4), 0);
        DUE.same("one in the fifth", core.run(1), 1);
        DUE.same("not those of earlier calls", core.run(3), 3);
        PipelinedCore traps = Programs.core(1, Asm.ECALL);
        DUE.same("those that trap do not end", traps.run(100), 0);
        PipelinedCore misses = Programs.core(8, Asm.read(2, 1, 0, 1024), Asm.nothing());
        DUE.same("none ends while the first waits", misses.run(36), 0);
        DUE.same("then both end", misses.run(2), 2);
    }

    /** Promise 6. */
    private static void registersAtTheirEnds() {
        PipelinedCore core = Programs.core(1, Asm.set(0, 5), Asm.set(1, 6), Asm.set(31, -7));
        core.run(7);
        DUE.same("reg 0", core.reg(0), 0);
        DUE.same("reg 1", core.reg(1), 6);
        DUE.same("reg 31", core.reg(31), -7);
    }

    private static void noSuchRegister() {
        PipelinedCore core = new PipelinedCore(1);
        for (int i = 0; i < 32; i++) {
            core.code(i, Asm.set(i, 3));
        }
        core.run(36);
        DUE.same("reg 31 is set", core.reg(31), 3);
        int[] none = {-1, -31, -32, 32, 33, 63, 64, 1 << 16, MIN, MIN + 1, MAX};
        for (int i : none) {
            DUE.same("reg " + i, core.reg(i), 0);
        }
    }

    /** Promise 7: every control register has bits, and their neighbours are none. */
    private static void noSuchControl() {
        PipelinedCore core = new PipelinedCore(1);
        core.code(0, Asm.set(1, -1));
        core.code(1, Asm.set(2, 128));
        for (int i = 0; i < Asm.CONTROLS.length; i++) {
            int from = Asm.CONTROLS[i] == Asm.STATUS ? 2 : 1;
            core.code(2 + i, Asm.control(1, 0, from, Asm.CONTROLS[i]));
        }
        core.code(10, Asm.jump(0, 0));
        core.lines(8);
        core.run(30);
        int[] due = {128, 2184, -1, -1, -4, -1, -1, 8};
        for (int i = 0; i < due.length; i++) {
            int number = Asm.CONTROLS[i];
            DUE.same("control " + number, core.control(number), due[i]);
            int[] far = {number + 4096, number - 4096, -number, number << 20, number | MIN};
            for (int none : far) {
                DUE.same("control " + none, core.control(none), 0);
            }
        }
        for (int number = 760; number < 848; number++) {
            boolean is = number == 768 || number == 772 || number == 773
                || number >= 832 && number <= 836;
            if (!is) {
                DUE.same("control " + number, core.control(number), 0);
            }
        }
        int[] none = {0, 1, 7, 8, 255, 256, 4095, -1, MIN, MAX};
        for (int number : none) {
            DUE.same("control " + number, core.control(number), 0);
        }
    }

    /** Promise 8: 0 when there is none. */
    private static void noSuchWord() {
        PipelinedCore core = withData();
        int[] none = {1020, 1023, 1025, 1026, 1027, 1029, 1275, 1277, 1278, 1279, 1280, 1284, 0, 4,
            63, 256, 508, -4, -1024, 2048, MIN, MIN + 1024, MAX, MAX - 3};
        for (int address : none) {
            DUE.same("word " + address, core.word(address), 0);
        }
        DUE.same("word 1024", core.word(1024), 7 * 1024);
        DUE.same("word 1276", core.word(1276), 7 * 1276);
    }

    /** The write begins in 4, is at memory from 5, and ends in 38. */
    private static void wordOnlyOfThoseThatEnded() {
        PipelinedCore core = Programs.core(8, Asm.set(1, 77), Asm.write(2, 1, 0, 1276),
            Asm.jump(0, 0));
        core.data(1276, 5);
        DUE.same("before any cycle", core.word(1276), 5);
        core.run(37);
        DUE.same("at memory", core.word(1276), 5);
        core.run(1);
        DUE.same("ended", core.word(1276), 77);
    }

    /** Promise 9: BAD when there is none. */
    private static void noneEndedYet() {
        PipelinedCore core = countingUp();
        for (int cycle = 0; cycle < 5; cycle++) {
            DUE.same("cycle " + cycle + ": none ended", core.ended(0, 0), BAD);
            DUE.same("cycle " + cycle + ": none ended", core.ended(0, 1), BAD);
            core.run(1);
        }
        DUE.same("the first", core.ended(0, 0), 0);
        DUE.same("the first, W", core.ended(0, 1), 5);
        DUE.same("none before the first", core.ended(1, 0), BAD);
        DUE.same("none before the first, W", core.ended(1, 1), BAD);
    }

    /** Promise 9: 15 is the farthest that is kept. */
    private static void sixteenAreKept() {
        int[] counts = {15, 16, 17, 32, 33, 100};
        for (int count : counts) {
            PipelinedCore core = countingUp();
            Programs.pass(core, 4 + count);
            String what = count + " ended: ";
            DUE.same(what + "number 0", core.ended(0, 0), 4 * count - 4);
            DUE.same(what + "number 0, W", core.ended(0, 1), count + 4);
            DUE.same(what + "number 14", core.ended(14, 0), 4 * count - 60);
            DUE.same(what + "number 15", core.ended(15, 0), count < 16 ? BAD : 4 * count - 64);
            DUE.same(what + "number 15, W", core.ended(15, 1), count < 16 ? BAD : count - 11);
            int[] none = {16, 17, 31, 32, -1, -15, -16, MIN, MAX};
            for (int i : none) {
                DUE.same(what + "number " + i, core.ended(i, 0), BAD);
                DUE.same(what + "number " + i + ", W", core.ended(i, 1), BAD);
            }
        }
    }

    /** Promise 9: BAD when which is neither. */
    private static void endedOfNeither() {
        PipelinedCore core = countingUp();
        core.run(50);
        int[] neither = {-1, 2, 3, 256, MIN, MIN + 1, MAX};
        for (int which : neither) {
            for (int i = -1; i <= 16; i++) {
                DUE.same("ended " + i + ", " + which, core.ended(i, which), BAD);
            }
        }
    }

    /** One that traps, and one that does not begin, end in no cycle. */
    private static void endedLeavesOutTraps() {
        PipelinedCore traps = Programs.core(1, Asm.control(5, 0, 12, Asm.VECTOR), Asm.ECALL, 0,
            Asm.nothing(), Asm.jump(0, 0));
        Programs.ends(DUE, "trap", traps, 0, 5, 12, 9);
        DUE.same("before the handler", traps.ended(1, 0), 0);
        DUE.same("and none before that", traps.ended(2, 0), BAD);
        PipelinedCore fails = Programs.core(1, Asm.control(5, 0, 20, Asm.VECTOR),
            Asm.control(5, 0, 8, Asm.ENABLED), Asm.control(5, 0, 8, Asm.STATUS), 0, 0,
            Asm.nothing());
        fails.lines(8);
        Programs.ends(DUE, "not begun", fails, 0, 5, 4, 6, 8, 7, 20, 11);
        DUE.same("before the handler", fails.ended(1, 0), 8);
    }

    private static void stages(PipelinedCore core, int cycle, int second, int third, int fourth) {
        Programs.pass(core, cycle - core.figure(0));
        DUE.same("cycle " + cycle + ": stage 2", core.stage(2), second);
        DUE.same("cycle " + cycle + ": stage 3", core.stage(3), third);
        DUE.same("cycle " + cycle + ": stage 4", core.stage(4), fourth);
    }

    /** Promise 10: a product (E 3, M 7, W 8) and one that traps; a read with E 3, M 4, W 37. */
    private static void stagesFromAndTo() {
        PipelinedCore core = Programs.core(1, Asm.parts(51, 1, 0, 0, 0, 1), 0);
        stages(core, 0, BAD, BAD, BAD);
        stages(core, 2, BAD, BAD, BAD);
        stages(core, 3, 0, BAD, BAD);
        stages(core, 6, 0, BAD, BAD);
        stages(core, 7, BAD, 0, BAD);
        stages(core, 8, BAD, BAD, 0);
        stages(core, 9, BAD, BAD, BAD);
        stages(core, 10, 0, BAD, BAD);
        PipelinedCore read = Programs.core(8, Asm.read(2, 1, 0, 1024), Asm.nothing(), 0);
        stages(read, 3, 0, BAD, BAD);
        stages(read, 4, 4, 0, BAD);
        stages(read, 36, 4, 0, BAD);
        stages(read, 37, BAD, 4, 0);
        stages(read, 38, BAD, BAD, 4);
        stages(read, 39, BAD, BAD, BAD);
    }

    private static void noSuchStage() {
        PipelinedCore core = countingUp();
        core.run(20);
        DUE.same("stage 2", core.stage(2), 68);
        DUE.same("stage 3", core.stage(3), 64);
        DUE.same("stage 4", core.stage(4), 60);
        int[] none = {-1, 0, 1, 5, 6, 7, -2, -3, -4, 2 + 8, 256 + 2, MIN, MIN + 2, MAX};
        for (int stage : none) {
            DUE.same("stage " + stage, core.stage(stage), BAD);
        }
    }

    /** Promise 11: an empty entry foretells the address + 4, for any address at all. */
    private static void foretoldByAnEmptyEntry() {
        PipelinedCore core = new PipelinedCore(1);
        int[] any = {0, 1, 2, 3, 4, 8, 12, 508, 512, 1024, -1, -2, -3, -4, -5, -8, -16, MIN, MIN + 1};
        for (int address : any) {
            DUE.same("foretold " + address, core.foretold(address), address + 4);
        }
        DUE.same("foretold " + (MAX - 4), core.foretold(MAX - 4), MAX);
        DUE.same("foretold " + (MAX - 3), core.foretold(MAX - 3), MIN);
        DUE.same("foretold " + MAX, core.foretold(MAX), MIN + 3);
    }

    private static void foretoldByAnEntryOfAnother() {
        PipelinedCore core = Programs.core(1, Asm.jump(0, 500));
        core.run(3);
        DUE.same("foretold 0", core.foretold(0), 500);
        int[] others = {1, 2, 3, 16, 32, 64, 256, 496, 512, -16, -1, MIN, 1 << 16, 4, 8, 12};
        for (int address : others) {
            DUE.same("foretold " + address, core.foretold(address), address + 4);
        }
    }

    /** The jump at 4 begins in cycle 4. */
    private static void foretoldAtTheEndOfTheLatestCycle() {
        PipelinedCore core = Programs.core(1, Asm.nothing(), Asm.jump(0, 96));
        core.run(3);
        DUE.same("before E", core.foretold(4), 8);
        core.run(1);
        DUE.same("in E", core.foretold(4), 100);
    }

    private static void figures(PipelinedCore core, int cycle, int k, int due) {
        Programs.pass(core, cycle - core.figure(0));
        DUE.same("cycle " + cycle + ": figure " + k, core.figure(k), due);
    }

    /** Promise 12: 3, 4 and 5 are counted in E(k). */
    private static void figuresCountedInE() {
        PipelinedCore traps = Programs.core(1, Asm.nothing(), Asm.ECALL);
        figures(traps, 3, 3, 0);
        figures(traps, 4, 3, 1);
        DUE.same("a trap is no failure to begin", traps.figure(4), 0);
        PipelinedCore fails = waiting();
        fails.lines(2056);
        figures(fails, 6, 4, 0);
        figures(fails, 7, 4, 1);
        DUE.same("a failure to begin is no trap", fails.figure(3), 0);
        PipelinedCore wrong = Programs.core(1, Asm.nothing(), Asm.jump(0, 0));
        figures(wrong, 3, 5, 0);
        figures(wrong, 4, 5, 1);
        figures(wrong, 40, 5, 1);
    }

    /** Promise 12: 1 and 2 are counted of those that ended. */
    private static void figuresCountedInW() {
        PipelinedCore core = Programs.core(1, Asm.read(2, 1, 0, 1024), Asm.read(2, 1, 0, 1028),
            Asm.write(0, 1, 0, 1279), Asm.jump(0, 0));
        figures(core, 8, 1, 0);
        figures(core, 8, 2, 0);
        figures(core, 9, 1, 1);
        figures(core, 9, 2, 1);
        figures(core, 10, 1, 2);
        figures(core, 15, 2, 1);
        figures(core, 16, 2, 2);
        figures(core, 16, 1, 3);
    }

    private static void noSuchFigure() {
        PipelinedCore core = countingUp();
        core.run(40);
        int[] none = {-1, -2, 6, 7, 8, 256, MIN, MIN + 1, MAX};
        for (int k : none) {
            DUE.same("figure " + k, core.figure(k), BAD);
        }
    }

    /** An object is used for at most 512 calls: the last of them is answered like the first. */
    private static void fiveHundredAndTwelveCalls() {
        PipelinedCore core = Programs.core(1, Asm.jump(0, 0));
        DUE.same("run 100", core.run(100), 94);
        for (int i = 0; i < 508; i++) {
            DUE.same("run 100", core.run(100), 100);
        }
        DUE.same("ended", core.figure(1), 50894);
        DUE.same("cycles", core.figure(0), 50900);
    }
}
