/** Each sentence on time, cache and foretelling that names a boundary case, by a test of its own. */
final class TimeEdgesTest {
    private static final Due DUE = new Due();
    private static final int READ = Asm.read(2, 1, 0, 1024);

    private TimeEdgesTest() {
    }

    public static void main(String[] args) {
        theFirstOne();
        trapsBeforeAnyThatEnds();
        atMemoryNotBeforeTheOneBeforeATrap();
        beginsNotBeforeTheOneBeforeIsAtMemory();
        productsAndQuotientsTakeLonger();
        readsOfTheFirstRegister();
        usersOfA();
        usersOfB();
        noCodeUsesNothing();
        failsToBeginWhenItIsToBegin();
        endsOfALine();
        placesOfLines();
        nothingGivesWay();
        aLineWrittenToGivesWay();
        aLineNotWrittenToGivesWay();
        fourEntries();
        anEntryIsEmpty();
        anEntryOfAnotherAddress();
        stayingLeavesAnEntryOfAnother();
        countsAtMostThree();
        countsAtLeastZero();
        countsOfANewEntry();
        jumpsToTheNextAddress();
        theTargetBecomesTheLatest();
        entriesOfThoseThatBeganBefore();
        returnsAreNotForetold();
        wronglyForetold();
        DUE.close();
    }

    private static void ends(String what, PipelinedCore core, int... pairs) {
        Programs.ends(DUE, what, core, pairs);
    }

    /** F(1) = 1, and there is no one before it. */
    private static void theFirstOne() {
        PipelinedCore core = Programs.core(1, Asm.nothing(), Asm.nothing());
        core.run(2);
        DUE.same("the first one in cycle 2", core.stage(2), -1);
        core.run(1);
        DUE.same("the first one's E", core.stage(2), 0);
        ends("the first one", core, 0, 5, 4, 6);
    }

    /** Where there is no P there is no such limit: a trap in every third cycle. */
    private static void trapsBeforeAnyThatEnds() {
        PipelinedCore core = Programs.core(8, Asm.ECALL);
        for (int cycle = 1; cycle <= 20; cycle++) {
            core.run(1);
            DUE.same("cycle " + cycle + ": traps", core.figure(3), cycle / 3);
            DUE.same("cycle " + cycle + ": ended", core.figure(1), 0);
        }
    }

    /** The read ends in 38; the handler begins in 8 and must wait for it. */
    private static void atMemoryNotBeforeTheOneBeforeATrap() {
        PipelinedCore core = Programs.core(8, Asm.control(5, 0, 16, Asm.VECTOR), READ, Asm.ECALL, 0,
            Asm.nothing(), Asm.nothing());
        core.run(8);
        DUE.same("the handler's E", core.stage(2), 16);
        ends("after a trap", core, 4, 38, 16, 39, 20, 40);
    }

    /** The third begins when the second is at memory, and that is when the read has ended. */
    private static void beginsNotBeforeTheOneBeforeIsAtMemory() {
        PipelinedCore core = Programs.core(8, READ, Asm.nothing(), Asm.nothing(), Asm.nothing());
        core.run(36);
        DUE.same("waits at stage 2", core.stage(2), 4);
        core.run(1);
        DUE.same("the next one begins", core.stage(2), 8);
        DUE.same("the one before is at memory", core.stage(3), 4);
        ends("and all end in turn", core, 4, 38, 8, 39, 12, 40);
    }

    /** e is 4 for f 0 .. 3 and 33 for f 4 .. 7 of g 1, else 1; whatever rd is. */
    private static void productsAndQuotientsTakeLonger() {
        for (int f = 0; f < 8; f++) {
            int longer = f < 4 ? 4 : 33;
            for (int rd = 0; rd < 2; rd++) {
                ends("g 1, f " + f, Programs.core(1, Asm.parts(51, rd, f, 0, 0, 1), Asm.nothing()),
                    0, 4 + longer, 4, 5 + longer);
            }
            ends("g 0, f " + f, Programs.core(1, Asm.parts(51, 1, f, 0, 0, 0), Asm.nothing()),
                0, 5, 4, 6);
        }
        ends("g 32, f 0", Programs.core(1, Asm.parts(51, 1, 0, 0, 0, 32), Asm.nothing()), 0, 5, 4, 6);
        ends("g 32, f 5", Programs.core(1, Asm.parts(51, 1, 5, 0, 0, 32), Asm.nothing()), 0, 5, 4, 6);
        ends("op 19", Programs.core(1, Asm.withI(19, 1, 4, 0, 32), Asm.nothing()), 0, 5, 4, 6);
    }

    /** An rd other than x0: nobody waits for what x0 is said to get. */
    private static void readsOfTheFirstRegister() {
        ends("x0", Programs.core(1, Asm.read(2, 0, 0, 1024), Asm.add(1, 0, 1)), 0, 9, 4, 10);
        ends("x0", Programs.core(1, Asm.read(2, 0, 0, 1024), Asm.parts(51, 1, 0, 0, 0, 0)),
            0, 9, 4, 10);
        ends("x1", Programs.core(1, READ, Asm.add(2, 1, 1)), 0, 9, 4, 11);
        ends("x31", Programs.core(1, Asm.read(2, 31, 0, 1024), Asm.add(1, 31, 1)), 0, 9, 4, 11);
    }

    /** The cycle in which the word after the read of x1 begins: 4, or 9 when it waits for it. */
    private static int begins(int word) {
        PipelinedCore core = Programs.core(1, READ, word);
        for (int cycle = 1; cycle < 12; cycle++) {
            core.run(1);
            if (core.figure(3) == 1 || core.stage(2) == 4) {
                return cycle;
            }
        }
        return -1;
    }

    /** All but op 55, 23, 111, 15, and 115 with f 0, 5, 6 or 7; those that trap too. */
    private static void usersOfA() {
        for (int op = 0; op < 128; op++) {
            for (int f = 0; f < 8; f++) {
                boolean none = op == 55 || op == 23 || op == 111 || op == 15
                    || op == 115 && (f == 0 || f >= 5);
                DUE.same("a of op " + op + ", f " + f, begins(Asm.parts(op, 2, f, 1, 0, 0)),
                    none ? 4 : 9);
            }
        }
    }

    /** Op 99, 35, 51; those that trap too. */
    private static void usersOfB() {
        for (int op = 0; op < 128; op++) {
            for (int f = 0; f < 8; f++) {
                boolean uses = op == 99 || op == 35 || op == 51;
                DUE.same("b of op " + op + ", f " + f, begins(Asm.parts(op, 2, f, 0, 1, 0)),
                    uses ? 9 : 4);
            }
        }
        DUE.same("b of op 51, g 127", begins(Asm.parts(51, 2, 0, 0, 1, 127)), 9);
        DUE.same("rd is no use", begins(Asm.add(1, 0, 1)), 4);
    }

    /** Its word counts as 0: the one at 512 waits for no register. */
    private static void noCodeUsesNothing() {
        PipelinedCore core = Programs.core(8, Asm.jump(0, 508));
        core.code(127, READ);
        core.run(6);
        DUE.same("cycle 6: traps", core.figure(3), 0);
        core.run(1);
        DUE.same("cycle 7: traps", core.figure(3), 1);
        DUE.same("cycle 7: VALUE", core.control(Asm.VALUE), 512);
    }

    /** The one that uses x1 is to begin in 12, when the read ends; a line set before is too early. */
    private static void failsToBeginWhenItIsToBegin() {
        PipelinedCore core = Programs.core(1, Asm.control(5, 0, 24, Asm.VECTOR),
            Asm.control(5, 0, 8, Asm.ENABLED), Asm.control(5, 0, 8, Asm.STATUS), READ,
            Asm.add(2, 1, 1), Asm.nothing(), Asm.jump(0, 0));
        core.run(6);
        core.lines(8);
        core.run(5);
        DUE.same("cycle 11: not begun", core.figure(4), 0);
        DUE.same("cycle 11: x1", core.reg(1), 0);
        core.run(1);
        DUE.same("cycle 12: not begun", core.figure(4), 1);
        DUE.same("cycle 12: RETURN", core.control(Asm.RETURN_TO), 16);
        ends("the handler", core, 24, 17);
        DUE.same("the one that used x1 did not begin", core.reg(2), 0);
    }

    /** Reads at addresses, and writes at addresses with their sign turned; their waits in lines. */
    private static void visits(String what, int[] visits, int... waits) {
        PipelinedCore core = new PipelinedCore(2);
        int[] pairs = new int[2 * visits.length];
        int end = 4;
        for (int i = 0; i < visits.length; i++) {
            int at = visits[i];
            core.code(i, at > 0 ? Asm.read(4, 1, 0, at) : Asm.write(0, 0, 0, -at));
            end += 1 + 8 * waits[i];
            pairs[2 * i] = 4 * i;
            pairs[2 * i + 1] = end;
        }
        ends(what, core, pairs);
        int missed = 0;
        for (int wait : waits) {
            missed += wait > 0 ? 1 : 0;
        }
        DUE.same(what + ": figure 2", core.figure(2), missed);
    }

    private static int[] at(int... addresses) {
        return addresses;
    }

    /** A line is 16 bytes of data. */
    private static void endsOfALine() {
        for (int line = 0; line < 16; line++) {
            int first = 1024 + 16 * line;
            visits("line " + line, at(first, first + 15, first + 8, first), 1, 0, 0, 0);
            visits("line " + line, at(first + 15, first, -(first + 7)), 1, 0, 0);
            if (line < 15) {
                visits("lines " + line + " and on", at(first + 15, first + 16, first), 1, 1, 0);
            }
        }
    }

    /** Line n has place n mod 4: of two lines with one place, one is there. */
    private static void placesOfLines() {
        for (int one = 0; one < 16; one++) {
            for (int other = 0; other < 16; other++) {
                boolean gone = one != other && one % 4 == other % 4;
                visits("lines " + one + ", " + other,
                    at(1024 + 16 * one, 1024 + 16 * other, 1024 + 16 * one),
                    1, one == other ? 0 : 1, gone ? 1 : 0);
            }
        }
        visits("four places", at(1024, 1040, 1056, 1072, 1024, 1040, 1056, 1072),
            1, 1, 1, 1, 0, 0, 0, 0);
    }

    /** A place that has no line yet: none must give way, though others were written to. */
    private static void nothingGivesWay() {
        visits("empty places", at(-1024, -1040, -1056, -1072), 1, 1, 1, 1);
        visits("empty places", at(-1024, 1104, 1056), 1, 1, 1);
        visits("its own line", at(-1024, -1025, 1039, -1024), 1, 0, 0, 0);
    }

    private static void aLineWrittenToGivesWay() {
        visits("came by a write", at(-1024, 1088), 1, 2);
        visits("written to later", at(1024, -1039, 1088), 1, 0, 2);
        visits("read later", at(-1024, 1024, 1088), 1, 0, 2);
        visits("a write makes it give way", at(-1024, -1088, -1152), 1, 2, 2);
        visits("the last lines", at(-1215, -1279, 1151), 1, 2, 2);
        for (int place = 0; place < 4; place++) {
            int first = 1024 + 16 * place;
            visits("place " + place, at(-first, first + 64, -(first + 64), first + 128),
                1, 2, 0, 2);
        }
    }

    private static void aLineNotWrittenToGivesWay() {
        visits("only read", at(1024, 1088, 1152), 1, 1, 1);
        visits("only read, by a write", at(1024, -1088), 1, 1);
        visits("another was written to", at(1024, -1040, 1088), 1, 1, 1);
        visits("the one before was written to", at(-1024, 1088, 1152), 1, 2, 1);
        visits("written to, gone, read again", at(-1024, 1088, 1024, 1088), 1, 2, 1, 1);
    }

    /** The entry for p is number p / 4 mod 4. */
    private static void fourEntries() {
        PipelinedCore core = Programs.core(1, Asm.jump(0, 20));
        core.code(5, Asm.jump(0, 20));
        core.code(10, Asm.jump(0, 20));
        core.code(15, Asm.jump(0, 0));
        core.run(20);
        DUE.same("entry 0", core.foretold(0), 20);
        DUE.same("entry 1", core.foretold(20), 40);
        DUE.same("entry 2", core.foretold(40), 60);
        DUE.same("entry 3", core.foretold(60), 60);
        for (int n = 1; n < 128; n++) {
            PipelinedCore two = Programs.core(1, Asm.jump(0, 4 * n));
            two.code(n, Asm.jump(0, 0));
            two.run(10);
            DUE.same("the jump at 0 after " + 4 * n, two.foretold(0), n % 4 == 0 ? 4 : 4 * n);
            DUE.same("the jump at " + 4 * n, two.foretold(4 * n), 4 * n);
        }
    }

    /** Before it jumps it is foretold to go on, and a branch that stays leaves the entry empty. */
    private static void anEntryIsEmpty() {
        PipelinedCore core = Programs.core(1, Asm.branch(1, 0, 0, 40), Asm.branch(0, 0, 0, 40));
        core.run(3);
        DUE.same("stays", core.foretold(0), 4);
        DUE.same("stays: wrongly", core.figure(5), 0);
        core.run(1);
        DUE.same("jumps", core.foretold(4), 44);
        DUE.same("jumps: wrongly", core.figure(5), 1);
    }

    private static void anEntryOfAnotherAddress() {
        PipelinedCore core = Programs.core(1, Asm.jump(0, 16), 0, 0, 0, Asm.jump(0, -16));
        core.run(3);
        DUE.same("the first has it", core.foretold(0), 16);
        core.run(3);
        DUE.same("the second has it", core.foretold(16), 0);
        DUE.same("the first has it no more", core.foretold(0), 4);
        core.run(90);
        DUE.same("each is foretold wrongly", core.figure(5), 32);
    }

    private static void stayingLeavesAnEntryOfAnother() {
        PipelinedCore core = Programs.core(1, Asm.jump(0, 16), 0, 0, 0, Asm.branch(1, 0, 0, 8),
            Asm.jump(0, 0));
        core.run(20);
        DUE.same("the first has it still", core.foretold(0), 16);
        DUE.same("the second has none", core.foretold(16), 20);
    }

    /** What is foretold for the branch at 8 after each round; x1 of the round tells if it jumps. */
    private static void rounds(String what, int[] jumps, int... due) {
        PipelinedCore core = Programs.core(1, Asm.set(2, 1024), Asm.read(2, 1, 2, 0),
            Asm.branch(1, 1, 0, 8), Asm.nothing(), Asm.add(2, 2, 4), Asm.jump(0, -16));
        for (int i = 0; i < jumps.length; i++) {
            core.data(1024 + 4 * i, jumps[i]);
        }
        int round = 0;
        for (int cycle = 0; cycle < 230 && round < jumps.length; cycle++) {
            core.run(1);
            if (core.stage(4) == 8) {
                DUE.same(what + ", round " + round, core.foretold(8), due[round]);
                round++;
            }
        }
        DUE.same(what + ": rounds", round, jumps.length);
    }

    /** Six jumps make no more than three do: two that stay, and it is foretold to stay. */
    private static void countsAtMostThree() {
        rounds("3 at most", new int[] {1, 1, 1, 1, 1, 1, 0, 0, 0, 1},
            16, 16, 16, 16, 16, 16, 16, 12, 12, 12);
        rounds("3 exactly", new int[] {1, 1, 0, 0, 1}, 16, 16, 16, 12, 16);
    }

    /** Six that stay make no less than 0: two jumps, and it is foretold to jump. */
    private static void countsAtLeastZero() {
        rounds("0 at least", new int[] {1, 0, 0, 0, 0, 0, 0, 1, 1, 0},
            16, 12, 12, 12, 12, 12, 12, 12, 16, 12);
    }

    /** A new entry has the count 2, one with its address and the count 0 gets 1 only. */
    private static void countsOfANewEntry() {
        rounds("new", new int[] {0, 0, 1, 0, 0, 1, 1}, 12, 12, 16, 12, 12, 12, 16);
    }

    /** It jumps also to pc + 4: it takes the entry of the jump at 0. */
    private static void jumpsToTheNextAddress() {
        int[] words = {Asm.jump(0, 4), Asm.jumpTo(0, 0, 20), Asm.branch(0, 0, 0, 4)};
        for (int word : words) {
            PipelinedCore core = Programs.core(1, Asm.jump(0, 16), 0, 0, 0, word, Asm.jump(0, 0));
            core.run(6);
            DUE.same("word " + word + ": foretold 0", core.foretold(0), 4);
            DUE.same("word " + word + ": foretold 16", core.foretold(16), 20);
            DUE.same("word " + word + ": wrongly", core.figure(5), 1);
            ends("word " + word, core, 16, 8, 20, 9);
        }
    }

    /** The jump at 4 goes to 8, and then, foretold wrongly, to 16. */
    private static void theTargetBecomesTheLatest() {
        PipelinedCore core = Programs.core(1, Asm.set(1, 8), Asm.jumpTo(0, 1, 0), Asm.add(1, 1, 8),
            Asm.jump(0, -8), Asm.jump(0, 0));
        core.run(4);
        DUE.same("the first target", core.foretold(4), 8);
        ends("to be gone", core, 0, 5, 4, 6, 8, 7, 12, 8, 4, 11, 16, 14);
        DUE.same("the second target", core.foretold(4), 16);
    }

    /** The one at 0 is fetched in the cycle in which another takes its entry: it still finds it. */
    private static void entriesOfThoseThatBeganBefore() {
        PipelinedCore core = Programs.core(1, Asm.jump(0, 4), Asm.jump(0, -4));
        ends("a loop of two", core, 0, 5, 4, 6, 0, 9, 4, 10, 0, 11, 4, 12);
        DUE.same("a loop of two: wrongly", core.figure(5), 1);
        for (int entry = 0; entry < 4; entry++) {
            anEntryOfTwo(entry);
        }
    }

    /** All begins as many cycles later as there are words before the one that has the entry. */
    private static void anEntryOfTwo(int entry) {
        PipelinedCore core = Programs.core(1, Asm.nothing(), Asm.nothing(), Asm.nothing());
        core.code(entry, Asm.jump(0, 16));
        core.code(entry + 4, Asm.jump(0, 4));
        core.code(entry + 5, Asm.jump(0, -20));
        core.run(4 + entry);
        int[] pairs = {0, 5, 16, 8, 20, 9, 0, 12, 16, 15, 20, 16, 0, 17, 16, 18, 20, 19, 0, 20,
            16, 21};
        for (int i = 0; i < pairs.length; i += 2) {
            pairs[i] += 4 * entry;
            pairs[i + 1] += entry;
        }
        ends("two of entry " + entry, core, pairs);
        DUE.same("two of entry " + entry + ": wrongly", core.figure(5), 3);
    }

    /** The next one is fetched after E, even if it is the one at pc + 4. */
    private static void returnsAreNotForetold() {
        PipelinedCore core = Programs.core(1, Asm.control(5, 0, 8, Asm.RETURN_TO), Asm.RETURN,
            Asm.nothing(), Asm.nothing());
        ends("a return to pc + 4", core, 0, 5, 4, 6, 8, 9, 12, 10);
        DUE.same("a return is not counted", core.figure(5), 0);
        DUE.same("a return has no entry", core.foretold(4), 8);
    }

    /** Once when the loop is entered, once when it is left, and not in between. */
    private static void wronglyForetold() {
        PipelinedCore core = Programs.core(1, Asm.set(1, 5), Asm.add(1, 1, -1),
            Asm.branch(1, 1, 0, -4), 15, Asm.WAIT);
        ends("a loop of five", core, 0, 5, 4, 6, 8, 7, 4, 10, 8, 11, 4, 12, 8, 13, 4, 14, 8, 15,
            4, 16, 8, 17, 12, 20, 16, 21);
        DUE.same("a loop of five: wrongly", core.figure(5), 2);
    }
}
