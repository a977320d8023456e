/** Makes objects with a program in them, for the tests. */
final class Programs {
    private Programs() {
    }

    /** The words stand from address 0 on. */
    static PipelinedCore core(int latency, int... words) {
        PipelinedCore core = new PipelinedCore(latency);
        for (int n = 0; n < words.length; n++) {
            core.code(n, words[n]);
        }
        return core;
    }

    /** Registers x1 and x2 are set to any values, then comes the word at address 8. */
    static PipelinedCore around(int word, int x1, int x2) {
        PipelinedCore core = core(1, Asm.read(2, 1, 0, 1024), Asm.read(2, 2, 0, 1028), word,
            Asm.jump(0, 0));
        core.data(1024, x1);
        core.data(1028, x2);
        return core;
    }

    static void pass(PipelinedCore core, int cycles) {
        for (int left = cycles; left > 0; left -= 100) {
            core.run(Math.min(100, left));
        }
    }

    /** Pairs of an address and the W of the instruction there, from the next one that ends. */
    static void ends(Due due, String what, PipelinedCore core, int... pairs) {
        for (int i = 0; i < pairs.length; i += 2) {
            int ended = 0;
            for (int n = 0; n < 200 && ended == 0; n++) {
                ended = core.run(1);
            }
            due.same(what + ", address of number " + i / 2, core.ended(0, 0), pairs[i]);
            due.same(what + ", W of number " + i / 2, core.ended(0, 1), pairs[i + 1]);
            due.same(what + ", cycle of number " + i / 2, core.figure(0), pairs[i + 1]);
        }
    }
}
