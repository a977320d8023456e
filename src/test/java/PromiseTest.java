/** Each of the document's promises by itself: ordinary inputs, edges and wrong inputs. */
final class PromiseTest {
    private static final Due DUE = new Due();
    private static final int MIN = Integer.MIN_VALUE;
    private static final int MAX = Integer.MAX_VALUE;

    private PromiseTest() {
    }

    public static void main(String[] args) {
        newObject();
        latencies();
        code();
        data();
        lines();
        run();
        reg();
        control();
        word();
        ended();
        stage();
        stagesOfTraps();
        foretold();
        figure();
        objectsAreApart();
        readme();
        readmeWithInterrupt();
        DUE.close();
    }

    /** Promise 1. */
    private static void newObject() {
        PipelinedCore core = new PipelinedCore(3);
        for (int i = 0; i < 32; i++) {
            DUE.same("new: reg " + i, core.reg(i), 0);
        }
        for (int number : Asm.CONTROLS) {
            DUE.same("new: control " + number, core.control(number), 0);
        }
        for (int address = 1024; address < 1280; address += 4) {
            DUE.same("new: word " + address, core.word(address), 0);
        }
        for (int k = 0; k < 6; k++) {
            DUE.same("new: figure " + k, core.figure(k), 0);
            DUE.same("new: foretold " + 4 * k, core.foretold(4 * k), 4 * k + 4);
        }
        for (int stage = 2; stage <= 4; stage++) {
            DUE.same("new: stage " + stage, core.stage(stage), -1);
        }
        DUE.same("new: ended", core.ended(0, 0), -1);
        DUE.same("new: ended", core.ended(0, 1), -1);
        core.run(3);
        DUE.same("a new object's code is 0, which is none", core.control(Asm.CAUSE), 2);
        DUE.same("a new object's first trap", core.figure(3), 1);
    }

    /** Promise 1: a miss shows the latency. */
    private static void latencies() {
        int[] given = {MIN, -1, 0, 1, 2, 3, 4, 5, 6, 7, 8, 9, 100, MAX};
        for (int latency : given) {
            int seen = latency < 1 ? 1 : latency > 8 ? 8 : latency;
            PipelinedCore core = Programs.core(latency, Asm.read(2, 1, 0, 1024));
            core.run(4 + 4 * seen);
            DUE.same("latency " + latency + " not yet", core.figure(1), 0);
            core.run(1);
            DUE.same("latency " + latency + " now", core.figure(1), 1);
            DUE.same("latency " + latency + " W", core.ended(0, 1), 5 + 4 * seen);
        }
    }

    /** Promise 2. */
    private static void code() {
        PipelinedCore core = new PipelinedCore(1);
        int[] wrong = {-1, 128, 129, 512, MIN, MAX};
        for (int n : wrong) {
            DUE.fails("code " + n, core.code(n, Asm.set(1, 1)));
        }
        for (int n = 0; n < 128; n++) {
            DUE.holds("code " + n, core.code(n, -1));
            DUE.holds("code " + n, core.code(n, Asm.add(1, 1, 1)));
        }
        DUE.same("no cycle passes", core.run(0), -1);
        DUE.holds("code before the first cycle", core.code(0, Asm.add(1, 1, 5)));
        core.run(1);
        DUE.fails("code after the first cycle", core.code(1, -1));
        DUE.fails("code after the first cycle", core.code(127, -1));
        Programs.pass(core, 131);
        DUE.same("all of the code was done", core.reg(1), 5 + 127);
        DUE.same("the last word of the code", core.ended(0, 0), 508);
        DUE.same("and then there is no code", core.control(Asm.VALUE), 512);
    }

    /** Promise 3. */
    private static void data() {
        PipelinedCore core = Programs.core(1, Asm.read(2, 1, 0, 1276), Asm.jump(0, 0));
        int[] wrong = {-4, 0, 4, 508, 1020, 1025, 1026, 1027, 1275, 1277, 1278, 1279, 1280, MIN, MAX};
        for (int address : wrong) {
            DUE.fails("data " + address, core.data(address, 7));
        }
        for (int address = 1024; address < 1280; address += 4) {
            DUE.same("data before " + address, core.word(address), 0);
            DUE.holds("data " + address, core.data(address, -address));
            DUE.same("data after " + address, core.word(address), -address);
        }
        DUE.holds("data again", core.data(1024, 5));
        core.run(1);
        DUE.fails("data after the first cycle", core.data(1024, 6));
        DUE.fails("data after the first cycle", core.data(1276, 6));
        core.run(20);
        DUE.same("data stay", core.word(1024), 5);
        DUE.same("data are read", core.reg(1), -1276);
    }

    /** Promise 4; when they begin to work is TimeTest's. */
    private static void lines() {
        PipelinedCore core = Programs.core(1, Asm.jump(0, 0));
        int[] right = {2184, 0, 8, 128, 2048, 136, 2056, 2176};
        for (int mask : right) {
            DUE.holds("lines " + mask, core.lines(mask));
            DUE.same("lines " + mask + " at once", core.control(Asm.LINES), mask);
        }
        for (int bit = 0; bit < 32; bit++) {
            boolean isLine = bit == 3 || bit == 7 || bit == 11;
            core.lines(128);
            DUE.same("lines of bit " + bit, core.lines(1 << bit) ? 1 : 0, isLine ? 1 : 0);
            DUE.same("LINES of bit " + bit, core.control(Asm.LINES), isLine ? 1 << bit : 128);
            DUE.same("lines of bit " + bit + " and 3", core.lines(1 << bit | 8) ? 1 : 0, isLine ? 1 : 0);
        }
        DUE.fails("lines -1", core.lines(-1));
        core.run(7);
        DUE.holds("lines after cycles", core.lines(2048));
        DUE.same("lines after cycles", core.control(Asm.LINES), 2048);
        core.run(7);
        DUE.same("nothing is enabled", core.figure(4), 0);
    }

    /** Promise 5. */
    private static void run() {
        PipelinedCore core = Programs.core(1, Asm.jump(0, 0));
        int[] wrong = {0, -1, -100, 101, 102, MIN, MAX};
        for (int n : wrong) {
            DUE.same("run " + n, core.run(n), -1);
            DUE.same("run " + n + " makes no cycle", core.figure(0), 0);
        }
        DUE.same("run 1", core.run(1), 0);
        DUE.same("run 100", core.run(100), 95);
        DUE.same("cycles", core.figure(0), 101);
        DUE.same("run 1", core.run(1), 1);
        for (int n : wrong) {
            DUE.same("run " + n, core.run(n), -1);
            DUE.same("run " + n + " makes no cycle", core.figure(0), 102);
        }
        PipelinedCore stuck = Programs.core(1, Asm.jump(0, 4), Asm.parts(51, 1, 4, 1, 1, 1),
            Asm.nothing());
        DUE.same("run to the quotient", stuck.run(5), 1);
        DUE.same("run in the quotient", stuck.run(32), 0);
        DUE.same("run to its end", stuck.run(2), 2);
    }

    /** Promise 6. */
    private static void reg() {
        PipelinedCore core = new PipelinedCore(1);
        for (int i = 0; i < 32; i++) {
            core.code(i, Asm.set(i, 100 + i));
        }
        core.code(32, Asm.jump(0, 0));
        core.run(5);
        for (int i = 1; i < 32; i++) {
            DUE.same("not yet: reg " + i, core.reg(i), 0);
            core.run(1);
            DUE.same("reg " + i, core.reg(i), 100 + i);
        }
        DUE.same("reg 0", core.reg(0), 0);
        int[] wrong = {-1, 32, 33, 64, -32, MIN, MAX};
        for (int i : wrong) {
            DUE.same("reg " + i, core.reg(i), 0);
        }
    }

    /** Promise 7. */
    private static void control() {
        PipelinedCore core = new PipelinedCore(1);
        int[] values = {8, 8, 21, 22, 20, 24, 25, 0};
        for (int i = 0; i < values.length; i++) {
            core.code(i, Asm.control(5, 0, values[i], Asm.CONTROLS[i]));
        }
        core.code(8, Asm.jump(0, 0));
        core.run(2);
        for (int i = 0; i < values.length; i++) {
            DUE.same("before E: " + Asm.CONTROLS[i], core.control(Asm.CONTROLS[i]), 0);
            core.run(1);
            DUE.same("in E: " + Asm.CONTROLS[i], core.control(Asm.CONTROLS[i]), values[i]);
        }
        for (int i = 0; i < values.length; i++) {
            DUE.same("later: " + Asm.CONTROLS[i], core.control(Asm.CONTROLS[i]), values[i]);
        }
        int[] wrong = {0, -1, 767, 769, 771, 774, 831, 837, 768 + 4096, 832 - 4096, MIN, MAX};
        for (int number : wrong) {
            DUE.same("control " + number, core.control(number), 0);
        }
    }

    /** Promise 8. */
    private static void word() {
        PipelinedCore core = Programs.core(2, Asm.set(1, 77), Asm.write(2, 1, 0, 1028),
            Asm.write(0, 1, 0, 1279), Asm.jump(0, 0));
        core.data(1028, 5);
        core.run(13);
        DUE.same("not yet written", core.word(1028), 5);
        core.run(1);
        DUE.same("written", core.word(1028), 77);
        DUE.same("not yet written", core.word(1276), 0);
        core.run(8);
        DUE.same("not yet written", core.word(1276), 0);
        core.run(1);
        DUE.same("written", core.word(1276), 77 << 24);
        int[] wrong = {0, 4, 1020, 1025, 1026, 1027, 1029, 1277, 1279, 1280, -1028, MIN, MAX};
        for (int address : wrong) {
            DUE.same("word " + address, core.word(address), 0);
        }
    }

    /** Promise 9. */
    private static void ended() {
        PipelinedCore core = new PipelinedCore(1);
        for (int n = 0; n < 30; n++) {
            core.code(n, Asm.nothing());
        }
        core.run(4);
        DUE.same("none ended", core.ended(0, 0), -1);
        for (int n = 0; n < 18; n++) {
            core.run(1);
            for (int i = 0; i < 17; i++) {
                boolean kept = i < 16 && i <= n;
                DUE.same("ended " + i + ", 0", core.ended(i, 0), kept ? 4 * (n - i) : -1);
            }
            DUE.same("ended 15, 1", core.ended(15, 1), n < 15 ? -1 : 5 + n - 15);
        }
        int[] wrong = {-1, -16, 16, 17, 32, MIN, MAX};
        for (int wrongOne : wrong) {
            DUE.same("ended " + wrongOne, core.ended(wrongOne, 0), -1);
            DUE.same("ended " + wrongOne, core.ended(wrongOne, 1), -1);
            DUE.same("ended 0, " + wrongOne, core.ended(0, wrongOne), -1);
        }
        DUE.same("ended 0, 2", core.ended(0, 2), -1);
    }

    /** Promise 10: a product, then a read that misses, then one that must wait for both. */
    private static void stage() {
        PipelinedCore core = Programs.core(1, Asm.parts(51, 1, 0, 0, 0, 1),
            Asm.read(2, 2, 0, 1024), Asm.nothing(), Asm.parts(51, 0, 0, 0, 0, 1));
        int[][] due = {
            {-1, -1, -1}, {-1, -1, -1}, {0, -1, -1}, {0, -1, -1}, {0, -1, -1}, {0, -1, -1},
            {4, 0, -1}, {8, 4, 0}, {8, 4, -1}, {8, 4, -1}, {8, 4, -1}, {8, 4, -1}, {12, 8, 4},
            {12, -1, 8}, {12, -1, -1}, {12, -1, -1}};
        for (int c = 0; c < due.length; c++) {
            core.run(1);
            for (int stage = 2; stage <= 4; stage++) {
                DUE.same("cycle " + (c + 1) + ", stage " + stage, core.stage(stage), due[c][stage - 2]);
            }
        }
        int[] wrong = {0, 1, 5, 6, -2, MIN, MAX};
        for (int stage : wrong) {
            DUE.same("stage " + stage, core.stage(stage), -1);
        }
    }

    /** Promise 10: one that traps, and one that does not begin, are at no stage. */
    private static void stagesOfTraps() {
        PipelinedCore traps = Programs.core(1, Asm.ECALL);
        PipelinedCore waits = Programs.core(1, Asm.control(5, 0, 16, Asm.VECTOR),
            Asm.control(5, 0, 8, Asm.ENABLED), Asm.control(6, 0, 8, Asm.STATUS),
            Asm.nothing(), Asm.ECALL);
        waits.lines(8);
        waits.run(7);
        for (int i = 0; i < 30; i++) {
            traps.run(1);
            waits.run(1);
            for (int stage = 2; stage <= 4; stage++) {
                DUE.same("trap at stage " + stage, traps.stage(stage), -1);
                DUE.same("not begun at stage " + stage, waits.stage(stage), -1);
            }
        }
        DUE.same("it did not begin", waits.figure(4), 1);
        DUE.holds("it trapped", traps.figure(3) > 5);
    }

    /** Promise 11. */
    private static void foretold() {
        PipelinedCore core = Programs.core(1, Asm.set(1, 1), Asm.branch(1, 1, 0, 4),
            Asm.branch(0, 1, 0, 16), Asm.nothing(), Asm.jumpTo(2, 0, 24), 0,
            Asm.branch(1, 1, 0, -20), 0);
        core.run(3);
        DUE.same("before E", core.foretold(4), 8);
        core.run(1);
        DUE.same("to the next one", core.foretold(4), 8);
        core.run(3);
        DUE.same("op 103 in E", core.foretold(16), 24);
        DUE.same("the same entry, another address", core.foretold(0), 4);
        DUE.same("the same entry, another address", core.foretold(32), 36);
        DUE.same("the same entry, crooked", core.foretold(17), 21);
        core.run(3);
        DUE.same("op 99 in E", core.foretold(24), 4);
        DUE.same("not known", core.foretold(8), 12);
        int[] others = {-1, -4, -16, 512, 1, 2, 3, 508, MIN};
        for (int address : others) {
            DUE.same("foretold " + address, core.foretold(address), address + 4);
        }
        DUE.same("foretold wraps", core.foretold(MAX - 3), MIN);
        counts();
        targets();
    }

    /** The branch at 4 jumps while x1 is not 0: the count goes 2, 3, 3, 2, 1, 0, 0, 1, 2. */
    private static void counts() {
        int[] x1 = {1, 1, 1, 0, 0, 0, 0, 1, 1, 0};
        int[] due = {12, 12, 12, 12, 8, 8, 8, 8, 12, 8};
        PipelinedCore core = Programs.core(1, Asm.set(2, 1024), Asm.branch(1, 1, 0, 8), Asm.nothing(),
            Asm.read(2, 1, 2, 0), Asm.add(2, 2, 4), Asm.nothing(), Asm.jump(0, -20));
        for (int i = 0; i < x1.length; i++) {
            core.data(1024 + 4 * i, x1[i]);
        }
        int seen = -1;
        int branches = -1;
        for (int c = 0; c < 230 && branches < x1.length; c++) {
            core.run(1);
            int now = core.stage(2);
            if (now == 4 && seen != 4) {
                if (branches >= 0) {
                    DUE.same("count after branch " + branches, core.foretold(4), due[branches]);
                }
                branches++;
            }
            seen = now;
        }
        DUE.same("branches", branches, x1.length);
    }

    /** The target becomes where op 103 went at last. */
    private static void targets() {
        PipelinedCore core = Programs.core(1, Asm.set(1, 8), Asm.jumpTo(0, 1, 0), Asm.add(1, 1, 8),
            Asm.jump(0, -8), Asm.jump(0, 0));
        core.run(4);
        DUE.same("first target", core.foretold(4), 8);
        core.run(12);
        DUE.same("second target", core.foretold(4), 16);
        DUE.same("it is there", core.ended(0, 0) == 16 || core.stage(2) == 16 ? 1 : 0, 1);
    }

    /** Promise 12. */
    private static void figure() {
        PipelinedCore core = Programs.core(1, Asm.control(5, 0, 20, Asm.VECTOR),
            Asm.read(2, 1, 0, 1024), Asm.read(2, 1, 0, 1028), Asm.ECALL, 0,
            Asm.write(2, 1, 0, 1040), Asm.control(5, 0, 8, Asm.ENABLED),
            Asm.control(6, 0, 8, Asm.STATUS), Asm.jump(0, 0));
        int[][] due = {
            {5, 1, 0, 0, 0, 0}, {9, 1, 0, 0, 0, 0}, {10, 2, 1, 1, 0, 0}, {11, 3, 1, 1, 0, 0},
            {18, 3, 1, 1, 0, 0}, {19, 4, 2, 1, 0, 0}, {20, 5, 2, 1, 0, 1}, {21, 6, 2, 1, 0, 1}};
        for (int[] row : due) {
            core.run(row[0] - core.figure(0));
            for (int k = 0; k < 6; k++) {
                DUE.same("cycle " + row[0] + ", figure " + k, core.figure(k), row[k]);
            }
        }
        int before = core.figure(4);
        core.lines(8);
        DUE.same("not begun before", before, 0);
        core.run(3);
        DUE.same("not begun", core.figure(4), 1);
        int[] wrong = {-1, 6, 7, MIN, MAX};
        for (int k : wrong) {
            DUE.same("figure " + k, core.figure(k), -1);
        }
    }

    private static void objectsAreApart() {
        PipelinedCore one = Programs.core(1, Asm.set(1, 1), Asm.jump(0, 0));
        PipelinedCore two = Programs.core(1, Asm.set(1, 2), Asm.jump(0, 0));
        one.data(1024, 1);
        one.lines(8);
        one.run(20);
        DUE.same("other data", two.word(1024), 0);
        DUE.same("other lines", two.control(Asm.LINES), 0);
        DUE.same("other cycles", two.figure(0), 0);
        DUE.same("other entries", two.foretold(4), 8);
        two.run(5);
        DUE.same("own register", two.reg(1), 2);
        DUE.same("own register", one.reg(1), 1);
    }

    private static void readme() {
        PipelinedCore core = new PipelinedCore(2);
        core.code(0, 0x00700093);
        core.code(1, 0x0000006f);
        DUE.same("run", core.run(5), 1);
        DUE.same("reg", core.reg(1), 7);
        DUE.same("stage", core.stage(3), 4);
        DUE.same("figure", core.figure(0), 5);
    }

    private static void readmeWithInterrupt() {
        PipelinedCore core = new PipelinedCore(1);
        core.data(1024, 42);
        core.code(0, 0x01000093);
        core.code(1, 0x30509073);
        core.code(2, 0x30446073);
        core.code(3, 0x30046073);
        core.code(4, 0x40002103);
        core.code(5, 0x0000006f);
        core.run(40);
        DUE.same("reg", core.reg(2), 42);
        DUE.holds("lines", core.lines(8));
        core.run(10);
        DUE.same("figure", core.figure(4), 1);
        DUE.same("address", core.control(833), 20);
        DUE.same("cause", core.control(834), -2147483645);
    }
}
