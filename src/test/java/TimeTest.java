/** Cycles that were worked out by hand from the document's formulas. */
final class TimeTest {
    private static final Due DUE = new Due();

    private TimeTest() {
    }

    public static void main(String[] args) {
        oneAfterTheOther();
        productsAndQuotients();
        readAndUse();
        readAndTrapAndUse();
        linesOfTheCache();
        jumpToItself();
        entriesAsTheFetchFoundThem();
        countsOfAnEntry();
        jumpToTheNextOne();
        traps();
        returns();
        interrupts();
        DUE.close();
    }

    private static void ends(String what, PipelinedCore core, int... pairs) {
        Programs.ends(DUE, what, core, pairs);
    }

    private static void oneAfterTheOther() {
        ends("one after the other", Programs.core(1, Asm.set(1, 1), Asm.add(1, 1, 1),
            Asm.add(1, 1, 1), 15, Asm.WAIT), 0, 5, 4, 6, 8, 7, 12, 8, 16, 9);
    }

    private static void productsAndQuotients() {
        for (int f = 0; f < 4; f++) {
            ends("product " + f, Programs.core(1, Asm.parts(51, 1, f, 0, 0, 1), Asm.nothing(),
                Asm.nothing()), 0, 8, 4, 9, 8, 10);
        }
        for (int f = 4; f < 8; f++) {
            ends("quotient " + f, Programs.core(1, Asm.parts(51, 1, f, 0, 0, 1), Asm.nothing(),
                Asm.nothing()), 0, 37, 4, 38, 8, 39);
        }
        ends("no product", Programs.core(1, Asm.parts(51, 1, 0, 0, 0, 32), Asm.nothing()),
            0, 5, 4, 6);
        ends("product after a miss", Programs.core(1, Asm.read(2, 1, 0, 1024),
            Asm.parts(51, 2, 0, 0, 0, 1), Asm.nothing()), 0, 9, 4, 10, 8, 11);
    }

    private static void readAndUse() {
        int read = Asm.read(2, 1, 0, 1024);
        afterRead("number", read, Asm.add(2, 1, 0), 11);
        afterRead("other register", read, Asm.add(2, 3, 0), 10);
        afterRead("b of op 51", read, Asm.parts(51, 2, 0, 0, 1, 0), 11);
        afterRead("b of op 35", read, Asm.write(2, 1, 0, 1024), 11);
        afterRead("a of op 35", read, Asm.write(2, 0, 1, 1024), 11);
        afterRead("b of op 99", read, Asm.branch(4, 0, 1, 8), 11);
        afterRead("a of op 3", read, Asm.read(2, 2, 1, 1024), 11);
        afterRead("no b of op 3", read, Asm.read(2, 2, 0, 1025 - 1), 10);
        afterRead("no b of op 19", read, Asm.add(2, 0, 1), 10);
        afterRead("no a of op 55", read, Asm.upper(2, 1 << 15), 10);
        afterRead("no a of op 23", read, Asm.upperAndPc(2, 1 << 15), 10);
        afterRead("no a of op 15", read, 15 | 1 << 15, 10);
        afterRead("a of op 115", read, Asm.control(1, 2, 1, Asm.SCRATCH), 11);
        afterRead("a of op 115", read, Asm.control(2, 2, 1, Asm.SCRATCH), 11);
        afterRead("a of op 115", read, Asm.control(3, 2, 1, Asm.SCRATCH), 11);
        afterRead("no a of op 115", read, Asm.control(5, 2, 1, Asm.SCRATCH), 10);
        afterRead("no a of op 115", read, Asm.control(6, 2, 1, Asm.SCRATCH), 10);
        afterRead("no a of op 115", read, Asm.control(7, 2, 1, Asm.SCRATCH), 10);
        afterRead("a of op 103", read, Asm.jumpTo(2, 1, 8), 11);
        afterRead("no a of op 111", read, Asm.jump(2, 8 << 12), 10);
        afterRead("x0", Asm.read(2, 0, 0, 1024), Asm.add(2, 0, 0), 10);
        ends("one later", Programs.core(1, read, Asm.nothing(), Asm.add(2, 1, 0)),
            0, 9, 4, 10, 8, 11);
    }

    /** The read misses and ends in 9; data are 0. */
    private static void afterRead(String what, int read, int word, int w) {
        ends("read, then " + what, Programs.core(1, read, word), 0, 9, 4, w);
    }

    /** One that traps stands between, so the read is still the latest before the one that uses. */
    private static void readAndTrapAndUse() {
        ends("read, trap, use", Programs.core(1, Asm.control(5, 0, 16, Asm.VECTOR),
            Asm.read(2, 1, 0, 1024), Asm.ECALL, 0, Asm.add(2, 1, 1)), 0, 5, 4, 10, 16, 12);
        ends("read, trap, no use", Programs.core(1, Asm.control(5, 0, 16, Asm.VECTOR),
            Asm.read(2, 1, 0, 1024), Asm.ECALL, 0, Asm.add(2, 3, 1)), 0, 5, 4, 10, 16, 11);
        ends("read, then a trap that uses", Programs.core(1, Asm.control(5, 0, 16, Asm.VECTOR),
            Asm.read(2, 1, 0, 1024), 1 << 15, 0, Asm.add(2, 3, 1)), 0, 5, 4, 10, 16, 15);
    }

    private static void linesOfTheCache() {
        ends("lines", Programs.core(1, Asm.write(2, 0, 0, 1024), Asm.read(2, 1, 0, 1088),
            Asm.read(2, 1, 0, 1024), Asm.read(0, 1, 0, 1039), Asm.read(2, 1, 0, 1088)),
            0, 9, 4, 18, 8, 23, 12, 24, 16, 29);
        ends("lines, latency 3", Programs.core(3, Asm.read(2, 1, 0, 1024), Asm.write(0, 0, 0, 1024),
            Asm.read(2, 1, 0, 1040), Asm.read(2, 1, 0, 1088)), 0, 17, 4, 18, 8, 31, 12, 56);
        PipelinedCore trapped = Programs.core(1, Asm.read(2, 1, 0, 1020), Asm.nothing());
        trapped.run(50);
        DUE.same("one that traps comes to no line", trapped.figure(2), 0);
    }

    private static void jumpToItself() {
        PipelinedCore core = Programs.core(1, Asm.jump(0, 0));
        ends("to itself", core, 0, 5, 0, 8, 0, 9, 0, 10, 0, 11);
        DUE.same("to itself, wrongly", core.figure(5), 1);
    }

    /** In the third round the one at 0 is fetched in the cycle in which 16 takes its entry. */
    private static void entriesAsTheFetchFoundThem() {
        PipelinedCore core = Programs.core(1, Asm.jump(0, 16), 0, 0, 0, Asm.jump(0, 4),
            Asm.jump(0, -20));
        ends("shared entry", core, 0, 5, 16, 8, 20, 9, 0, 12, 16, 15, 20, 16, 0, 17, 16, 18,
            20, 19, 0, 20);
        DUE.same("shared entry, wrongly", core.figure(5), 3);
    }

    /** A loop of four rounds, left and entered again by a jump. */
    private static void countsOfAnEntry() {
        PipelinedCore core = Programs.core(1, Asm.set(1, 4), Asm.add(1, 1, -1),
            Asm.branch(1, 1, 0, -4), Asm.jump(0, -12));
        ends("loop", core, 0, 5, 4, 6, 8, 7, 4, 10, 8, 11, 4, 12, 8, 13, 4, 14, 8, 15, 12, 18,
            0, 21, 4, 22, 8, 23, 4, 24);
        DUE.same("loop, wrongly", core.figure(5), 3);
    }

    private static void jumpToTheNextOne() {
        PipelinedCore core = Programs.core(1, Asm.jump(1, 4), Asm.nothing());
        ends("to the next one", core, 0, 5, 4, 6);
        DUE.same("to the next one, wrongly", core.figure(5), 0);
        PipelinedCore branch = Programs.core(1, Asm.branch(0, 0, 0, 4), Asm.branch(1, 0, 0, 8),
            Asm.jump(0, -4));
        ends("branch to the next one", branch, 0, 5, 4, 6, 8, 7, 4, 10);
        DUE.same("branch to the next one, wrongly", branch.figure(5), 1);
    }

    private static void traps() {
        PipelinedCore core = Programs.core(1, Asm.control(5, 0, 12, Asm.VECTOR), Asm.ECALL,
            Asm.nothing(), Asm.jump(0, 0));
        ends("trap", core, 0, 5, 12, 9, 12, 12);
        PipelinedCore out = Programs.core(1, Asm.control(5, 0, 12, Asm.VECTOR),
            Asm.jumpTo(0, 0, 512), 0, Asm.jump(0, 0));
        ends("no code", out, 0, 5, 4, 6, 12, 12);
        DUE.same("no code, cause", out.control(Asm.CAUSE), 1);
        DUE.same("no code, value", out.control(Asm.VALUE), 512);
    }

    /** A return is never taken to be foretold, even to the next address. */
    private static void returns() {
        PipelinedCore core = Programs.core(1, Asm.control(5, 0, 8, Asm.RETURN_TO), Asm.RETURN,
            Asm.nothing(), Asm.nothing());
        ends("return", core, 0, 5, 4, 6, 8, 9, 12, 10);
        DUE.same("return, wrongly", core.figure(5), 0);
    }

    private static PipelinedCore interrupted() {
        return Programs.core(1, Asm.control(5, 0, 24, Asm.VECTOR),
            Asm.control(5, 0, 8, Asm.ENABLED), Asm.control(5, 0, 8, Asm.STATUS), Asm.nothing(),
            Asm.nothing(), Asm.nothing(), Asm.RETURN);
    }

    private static void interrupts() {
        PipelinedCore atOnce = interrupted();
        atOnce.lines(8);
        ends("interrupt", atOnce, 0, 5, 4, 6, 8, 7, 24, 11, 24, 17);
        DUE.same("interrupt, RETURN", atOnce.control(Asm.RETURN_TO), 12);
        for (int cycle = 5; cycle <= 7; cycle++) {
            PipelinedCore later = interrupted();
            later.run(cycle);
            DUE.same("none did not begin", later.figure(4), 0);
            later.lines(8);
            DUE.same("none did not begin", later.figure(4), 0);
            later.run(1);
            DUE.same("one did not begin", later.figure(4), 1);
            DUE.same("interrupt after " + cycle, later.control(Asm.RETURN_TO), 4 * cycle - 8);
        }
    }
}
