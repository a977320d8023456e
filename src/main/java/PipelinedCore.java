import java.util.Arrays;

/**
 * A processor of 32 bits with five stages, as the document ../shared/DOC.md describes it.
 *
 * <p>An instruction is worked out whole in the cycle in which it begins, its times among the rest;
 * until it ends it waits in one of two places, and only then do registers and data change.
 */
public final class PipelinedCore {
    public static final int BAD = -1;

    private static final int CODE_WORDS = 128;
    private static final int REGISTERS = 32;
    private static final int MOST_CYCLES = 100;

    private final int[] codeWords = new int[CODE_WORDS];
    private final int[] registers = new int[REGISTERS];
    private final Controls controls = new Controls();
    private final Store store = new Store();
    private final Cache cache;
    private final Foreteller foreteller = new Foreteller();
    private final History history = new History();

    private final Instruction coming = new Instruction();
    private Effect executing = new Effect();
    private Effect atMemory = new Effect();

    private int cycle;
    private int latestEnd;
    private int latestRead;
    private int missed;
    private int trapped;
    private int notBegun;
    private int foretoldWrongly;

    public PipelinedCore(int latency) {
        cache = new Cache(latency);
    }

    public boolean code(int n, int word) {
        if (n < 0 || n >= CODE_WORDS || cycle > 0) {
            return false;
        }
        codeWords[n] = word;
        return true;
    }

    public boolean data(int address, int word) {
        if (!Store.hasWord(address) || cycle > 0) {
            return false;
        }
        store.setWord(address, word);
        return true;
    }

    public boolean lines(int mask) {
        return controls.setLines(mask);
    }

    public int run(int n) {
        if (n < 1 || n > MOST_CYCLES) {
            return BAD;
        }
        if (cycle == 0) {
            expect(0, 1, 0);
        }
        int before = history.total;
        for (int i = 0; i < n; i++) {
            makeCycle();
        }
        return history.total - before;
    }

    public int reg(int i) {
        return i < 0 || i >= REGISTERS ? 0 : registers[i];
    }

    public int control(int number) {
        return controls.read(number);
    }

    public int word(int address) {
        return Store.hasWord(address) ? store.wordAround(address) : 0;
    }

    public int ended(int i, int which) {
        if (!history.has(i)) {
            return BAD;
        }
        switch (which) {
            case 0:
                return history.address(i);
            case 1:
                return history.time(i);
            default:
                return BAD;
        }
    }

    public int stage(int stage) {
        switch (stage) {
            case 2:
                return executing.alive ? executing.address : BAD;
            case 3:
                return atMemory.alive ? atMemory.address : BAD;
            case 4:
                return history.has(0) && history.time(0) == cycle ? history.address(0) : BAD;
            default:
                return BAD;
        }
    }

    public int foretold(int address) {
        return foreteller.foretell(address, cycle + 1);
    }

    public int figure(int k) {
        switch (k) {
            case 0:
                return cycle;
            case 1:
                return history.total;
            case 2:
                return missed;
            case 3:
                return trapped;
            case 4:
                return notBegun;
            case 5:
                return foretoldWrongly;
            default:
                return BAD;
        }
    }

    /** Oldest first, so that each place is free and each result there when the next one needs it. */
    private void makeCycle() {
        cycle++;
        if (atMemory.alive && atMemory.ends == cycle) {
            end(atMemory);
        }
        if (executing.alive && executing.memoryFrom == cycle) {
            moveToMemory();
        }
        if (coming.begins == cycle) {
            begin(executing);
        }
    }

    /**
     * Data are read only here: by now all that was to be written before has been written, and
     * nobody who uses what is read begins earlier.
     */
    private void end(Effect effect) {
        effect.alive = false;
        if (effect.access == Effect.READS) {
            effect.result = store.read(effect.where, effect.width);
        } else if (effect.access == Effect.WRITES) {
            store.write(effect.where, effect.width, effect.written);
        }
        if (effect.rd != 0) {
            registers[effect.rd] = effect.result;
        }
        if (effect.missed) {
            missed++;
        }
        history.add(effect.address, cycle);
    }

    private void moveToMemory() {
        Effect free = atMemory;
        atMemory = executing;
        executing = free;
    }

    private void begin(Effect effect) {
        effect.reset(coming.address);
        int line = controls.dueLine();
        if (line != Controls.NO_LINE) {
            notBegun++;
            expect(controls.enterInterrupt(coming.address, line), cycle + 1, cycle + 1);
            return;
        }
        if (coming.isCode) {
            Execution.perform(coming, operand(coming.a), operand(coming.b), controls, effect);
        } else {
            effect.trap(Effect.NO_CODE, coming.address);
        }
        if (effect.traps) {
            trapped++;
            int handler = controls.enterTrap(coming.address, effect.cause, effect.value);
            expect(handler, cycle + 1, cycle + 1);
            return;
        }
        setTimes(effect);
        goOn(effect);
    }

    /** The one at memory is the only one that can have begun before and not yet ended. */
    private int operand(int register) {
        boolean onItsWay = register != 0 && atMemory.alive && atMemory.rd == register;
        return onItsWay ? atMemory.result : registers[register];
    }

    /**
     * The cache is asked now and not at memory, since the next one's beginning may hang on the
     * answer; accesses overtake nothing, so the answer is the same.
     */
    private void setTimes(Effect effect) {
        int extra = 0;
        if (effect.access != Effect.NO_ACCESS) {
            extra = cache.visit(effect.where, effect.access == Effect.WRITES);
        }
        effect.missed = extra > 0;
        effect.memoryFrom = Math.max(cycle + effect.effort, latestEnd);
        effect.ends = effect.memoryFrom + 1 + extra;
        effect.alive = true;
        latestEnd = effect.ends;
        latestRead = effect.access == Effect.READS ? effect.rd : 0;
    }

    private void goOn(Effect effect) {
        boolean right = effect.next == coming.foretold;
        if (coming.mayJump()) {
            foreteller.learn(coming.address, effect.jumps, effect.next, cycle);
            if (!right) {
                foretoldWrongly++;
            }
        }
        int fetched = right && !effect.returns ? coming.decoded : cycle + 1;
        expect(effect.next, fetched, effect.memoryFrom);
    }

    /** All that decides when the next one begins is known as soon as this one has begun. */
    private void expect(int address, int fetched, int notBefore) {
        boolean isCode = (address & 3) == 0 && address >= 0 && address < 4 * CODE_WORDS;
        coming.decode(address, isCode, isCode ? codeWords[address >> 2] : 0);
        coming.foretold = foreteller.foretell(address, fetched);
        coming.decoded = Math.max(fetched + 1, cycle);
        coming.begins = Math.max(coming.decoded + 1, notBefore);
        if (latestRead != 0 && coming.uses(latestRead)) {
            coming.begins = Math.max(coming.begins, latestEnd);
        }
    }

    /** The instruction that is next to begin: its parts and its times. */
    private static final class Instruction {
        static final int READ = 3;
        static final int NOTHING = 15;
        static final int WITH_NUMBER = 19;
        static final int UPPER_AND_PC = 23;
        static final int WRITE = 35;
        static final int WITH_REGISTER = 51;
        static final int UPPER = 55;
        static final int BRANCH = 99;
        static final int JUMP_TO_REGISTER = 103;
        static final int JUMP = 111;
        static final int SYSTEM = 115;

        static final int CALL_WORD = 115;
        static final int BREAK_WORD = 1048691;
        static final int RETURN_WORD = 807403635;
        static final int WAIT_WORD = 273678451;

        int address;
        boolean isCode;
        int word;
        int op;
        int rd;
        int f;
        int a;
        int b;
        int g;
        int foretold;
        int decoded;
        int begins;

        void decode(int atAddress, boolean atCode, int itsWord) {
            address = atAddress;
            isCode = atCode;
            word = itsWord;
            op = word & 127;
            rd = (word >>> 7) & 31;
            f = (word >>> 12) & 7;
            a = (word >>> 15) & 31;
            b = (word >>> 20) & 31;
            g = word >>> 25;
        }

        int numberI() {
            return word >> 20;
        }

        int numberS() {
            return (word >> 25 << 5) | rd;
        }

        int numberB() {
            return (word >> 31 << 12) | ((word >>> 7 & 1) << 11) | ((word >>> 25 & 63) << 5)
                | ((word >>> 8 & 15) << 1);
        }

        int numberU() {
            return word & -4096;
        }

        int numberJ() {
            return (word >> 31 << 20) | (word & 0xff000) | ((word >>> 20 & 1) << 11)
                | ((word >>> 21 & 1023) << 1);
        }

        boolean mayJump() {
            return op == JUMP || op == JUMP_TO_REGISTER || op == BRANCH;
        }

        boolean uses(int register) {
            return usesA() && a == register || usesB() && b == register;
        }

        private boolean usesA() {
            switch (op) {
                case UPPER:
                case UPPER_AND_PC:
                case JUMP:
                case NOTHING:
                    return false;
                case SYSTEM:
                    return f != 0 && f < 5;
                default:
                    return true;
            }
        }

        private boolean usesB() {
            return op == BRANCH || op == WRITE || op == WITH_REGISTER;
        }
    }

    /** What an instruction does, kept from its beginning until it ends. */
    private static final class Effect {
        static final int NO_ACCESS = 0;
        static final int READS = 1;
        static final int WRITES = 2;

        static final int CROOKED_NEXT = 0;
        static final int NO_CODE = 1;
        static final int NO_INSTRUCTION = 2;
        static final int BREAK = 3;
        static final int CROOKED_READ = 4;
        static final int NO_DATA_TO_READ = 5;
        static final int CROOKED_WRITE = 6;
        static final int NO_DATA_TO_WRITE = 7;
        static final int CALL = 11;

        boolean alive;
        int address;
        int effort;
        int memoryFrom;
        int ends;
        boolean missed;

        int rd;
        int result;
        int access;
        int where;
        int width;
        int written;

        int next;
        boolean jumps;
        boolean returns;
        boolean traps;
        int cause;
        int value;

        void reset(int itsAddress) {
            alive = false;
            address = itsAddress;
            effort = 1;
            rd = 0;
            access = NO_ACCESS;
            next = itsAddress + 4;
            jumps = false;
            returns = false;
            traps = false;
        }

        void setRegister(int register, int word) {
            rd = register;
            result = word;
        }

        void trap(int itsCause, int itsValue) {
            traps = true;
            cause = itsCause;
            value = itsValue;
        }

        void jump(int target) {
            if ((target & 3) != 0) {
                trap(CROOKED_NEXT, target);
                return;
            }
            jumps = true;
            next = target;
        }
    }

    /** Works out what an instruction does; of all state it changes control registers alone. */
    private static final class Execution {
        private static final int PLAIN = 0;
        private static final int OTHER = 32;
        private static final int LONG = 1;
        private static final int PRODUCT_EFFORT = 4;
        private static final int QUOTIENT_EFFORT = 33;

        static void perform(Instruction in, int a, int b, Controls controls, Effect effect) {
            switch (in.op) {
                case Instruction.UPPER:
                    effect.setRegister(in.rd, in.numberU());
                    break;
                case Instruction.UPPER_AND_PC:
                    effect.setRegister(in.rd, in.address + in.numberU());
                    break;
                case Instruction.JUMP:
                    jump(in, in.address + in.numberJ(), effect);
                    break;
                case Instruction.JUMP_TO_REGISTER:
                    if (in.f == 0) {
                        jump(in, (a + in.numberI()) & -2, effect);
                    } else {
                        refuse(in, effect);
                    }
                    break;
                case Instruction.BRANCH:
                    branch(in, a, b, effect);
                    break;
                case Instruction.READ:
                    read(in, a + in.numberI(), effect);
                    break;
                case Instruction.WRITE:
                    write(in, a + in.numberS(), b, effect);
                    break;
                case Instruction.WITH_NUMBER:
                    computeWithNumber(in, a, effect);
                    break;
                case Instruction.WITH_REGISTER:
                    computeWithRegister(in, a, b, effect);
                    break;
                case Instruction.SYSTEM:
                    if (in.f == 0) {
                        doWholeWord(in, controls, effect);
                    } else {
                        useControl(in, a, controls, effect);
                    }
                    break;
                case Instruction.NOTHING:
                    break;
                default:
                    refuse(in, effect);
                    break;
            }
        }

        private static void refuse(Instruction in, Effect effect) {
            effect.trap(Effect.NO_INSTRUCTION, in.word);
        }

        private static void jump(Instruction in, int target, Effect effect) {
            effect.setRegister(in.rd, in.address + 4);
            effect.jump(target);
        }

        private static void branch(Instruction in, int a, int b, Effect effect) {
            if (in.f == 2 || in.f == 3) {
                refuse(in, effect);
            } else if (conditionHolds(in.f, a, b)) {
                effect.jump(in.address + in.numberB());
            }
        }

        private static boolean conditionHolds(int f, int a, int b) {
            switch (f) {
                case 0:
                    return a == b;
                case 1:
                    return a != b;
                case 4:
                    return a < b;
                case 5:
                    return a >= b;
                case 6:
                    return Arithmetic.lessWithoutSigns(a, b);
                default:
                    return !Arithmetic.lessWithoutSigns(a, b);
            }
        }

        private static void read(Instruction in, int where, Effect effect) {
            if (in.f == 3 || in.f > 5) {
                refuse(in, effect);
            } else if (!Store.isStraight(where, in.f)) {
                effect.trap(Effect.CROOKED_READ, where);
            } else if (!Store.has(where)) {
                effect.trap(Effect.NO_DATA_TO_READ, where);
            } else {
                effect.access = Effect.READS;
                effect.rd = in.rd;
                effect.where = where;
                effect.width = in.f;
            }
        }

        private static void write(Instruction in, int where, int word, Effect effect) {
            if (in.f > 2) {
                refuse(in, effect);
            } else if (!Store.isStraight(where, in.f)) {
                effect.trap(Effect.CROOKED_WRITE, where);
            } else if (!Store.has(where)) {
                effect.trap(Effect.NO_DATA_TO_WRITE, where);
            } else {
                effect.access = Effect.WRITES;
                effect.where = where;
                effect.width = in.f;
                effect.written = word;
            }
        }

        private static void computeWithNumber(Instruction in, int a, Effect effect) {
            boolean shifts = in.f == 1 || in.f == 5;
            if (!shifts || in.g == PLAIN) {
                effect.setRegister(in.rd, Arithmetic.plain(in.f, a, in.numberI()));
            } else if (in.f == 5 && in.g == OTHER) {
                effect.setRegister(in.rd, a >> in.b);
            } else {
                refuse(in, effect);
            }
        }

        private static void computeWithRegister(Instruction in, int a, int b, Effect effect) {
            if (in.g == PLAIN) {
                effect.setRegister(in.rd, Arithmetic.plain(in.f, a, b));
            } else if (in.g == OTHER && in.f == 0) {
                effect.setRegister(in.rd, a - b);
            } else if (in.g == OTHER && in.f == 5) {
                effect.setRegister(in.rd, a >> (b & 31));
            } else if (in.g == LONG && in.f < 4) {
                effect.effort = PRODUCT_EFFORT;
                effect.setRegister(in.rd, Arithmetic.product(in.f, a, b));
            } else if (in.g == LONG) {
                effect.effort = QUOTIENT_EFFORT;
                effect.setRegister(in.rd, Arithmetic.quotient(in.f, a, b));
            } else {
                refuse(in, effect);
            }
        }

        private static void doWholeWord(Instruction in, Controls controls, Effect effect) {
            switch (in.word) {
                case Instruction.CALL_WORD:
                    effect.trap(Effect.CALL, 0);
                    break;
                case Instruction.BREAK_WORD:
                    effect.trap(Effect.BREAK, 0);
                    break;
                case Instruction.RETURN_WORD:
                    effect.returns = true;
                    effect.next = controls.leaveTrap();
                    break;
                case Instruction.WAIT_WORD:
                    break;
                default:
                    refuse(in, effect);
                    break;
            }
        }

        private static void useControl(Instruction in, int a, Controls controls, Effect effect) {
            int number = in.word >>> 20;
            if (in.f == 4 || !Controls.has(number)) {
                refuse(in, effect);
                return;
            }
            int old = controls.read(number);
            int operand = in.f < 4 ? a : in.a;
            effect.setRegister(in.rd, old);
            switch (in.f & 3) {
                case 1:
                    controls.write(number, operand);
                    break;
                case 2:
                    controls.write(number, old | operand);
                    break;
                default:
                    controls.write(number, old & ~operand);
                    break;
            }
        }
    }

    /** The arithmetic of ops 19 and 51, by the number f. */
    private static final class Arithmetic {
        private static final long LOW_WORD = 0xffffffffL;

        static boolean lessWithoutSigns(int a, int b) {
            return (a & LOW_WORD) < (b & LOW_WORD);
        }

        static int plain(int f, int a, int b) {
            switch (f) {
                case 0:
                    return a + b;
                case 1:
                    return a << (b & 31);
                case 2:
                    return a < b ? 1 : 0;
                case 3:
                    return lessWithoutSigns(a, b) ? 1 : 0;
                case 4:
                    return a ^ b;
                case 5:
                    return a >>> (b & 31);
                case 6:
                    return a | b;
                default:
                    return a & b;
            }
        }

        static int product(int f, int a, int b) {
            switch (f) {
                case 0:
                    return a * b;
                case 1:
                    return (int) ((long) a * b >> 32);
                case 2:
                    return (int) (a * (b & LOW_WORD) >> 32);
                default:
                    return (int) ((a & LOW_WORD) * (b & LOW_WORD) >>> 32);
            }
        }

        static int quotient(int f, int a, int b) {
            if (b == 0) {
                return f < 6 ? -1 : a;
            }
            switch (f) {
                case 4:
                    return (int) ((long) a / b);
                case 5:
                    return (int) ((a & LOW_WORD) / (b & LOW_WORD));
                case 6:
                    return (int) ((long) a % b);
                default:
                    return (int) ((a & LOW_WORD) % (b & LOW_WORD));
            }
        }
    }

    /** The control registers, and what traps, interrupts and returns make of them. */
    private static final class Controls {
        static final int NO_LINE = 0;

        private static final int STATUS = 768;
        private static final int ENABLED = 772;
        private static final int VECTOR = 773;
        private static final int SCRATCH = 832;
        private static final int RETURN = 833;
        private static final int CAUSE = 834;
        private static final int VALUE = 835;
        private static final int LINES = 836;

        private static final int INTERRUPT = -2147483648;
        private static final int ON = 1 << 3;
        private static final int WAS_ON = 1 << 7;
        private static final int LINE_BITS = 1 << 3 | 1 << 7 | 1 << 11;
        private static final int STRAIGHT = -4;

        private int status;
        private int enabled;
        private int vector;
        private int scratch;
        private int returnAddress;
        private int cause;
        private int value;
        private int lineBits;

        static boolean has(int number) {
            switch (number) {
                case STATUS:
                case ENABLED:
                case VECTOR:
                case SCRATCH:
                case RETURN:
                case CAUSE:
                case VALUE:
                case LINES:
                    return true;
                default:
                    return false;
            }
        }

        int read(int number) {
            switch (number) {
                case STATUS:
                    return status;
                case ENABLED:
                    return enabled;
                case VECTOR:
                    return vector;
                case SCRATCH:
                    return scratch;
                case RETURN:
                    return returnAddress;
                case CAUSE:
                    return cause;
                case VALUE:
                    return value;
                case LINES:
                    return lineBits;
                default:
                    return 0;
            }
        }

        /** LINES is left out: only setLines changes it. */
        void write(int number, int word) {
            switch (number) {
                case STATUS:
                    status = word & (ON | WAS_ON);
                    break;
                case ENABLED:
                    enabled = word & LINE_BITS;
                    break;
                case VECTOR:
                    vector = word;
                    break;
                case SCRATCH:
                    scratch = word;
                    break;
                case RETURN:
                    returnAddress = word & STRAIGHT;
                    break;
                case CAUSE:
                    cause = word;
                    break;
                case VALUE:
                    value = word;
                    break;
                default:
                    break;
            }
        }

        boolean setLines(int mask) {
            if ((mask & ~LINE_BITS) != 0) {
                return false;
            }
            lineBits = mask;
            return true;
        }

        int dueLine() {
            int due = (status & ON) != 0 ? lineBits & enabled : 0;
            if ((due & 1 << 11) != 0) {
                return 11;
            }
            if ((due & 1 << 3) != 0) {
                return 3;
            }
            return (due & 1 << 7) != 0 ? 7 : NO_LINE;
        }

        int enterInterrupt(int address, int line) {
            int handler = enterTrap(address, INTERRUPT + line, 0);
            return (vector & 1) != 0 ? handler + 4 * line : handler;
        }

        int enterTrap(int address, int itsCause, int itsValue) {
            returnAddress = address & STRAIGHT;
            cause = itsCause;
            value = itsValue;
            status = (status & ON) != 0 ? WAS_ON : 0;
            return vector & STRAIGHT;
        }

        int leaveTrap() {
            status = (status & WAS_ON) != 0 ? ON | WAS_ON : WAS_ON;
            return returnAddress;
        }
    }

    /** The data, as the instructions that ended have left them. */
    private static final class Store {
        static final int FIRST = 1024;
        private static final int WORDS = 64;

        private final int[] words = new int[WORDS];

        static boolean has(int address) {
            return address >= FIRST && address < FIRST + 4 * WORDS;
        }

        static boolean hasWord(int address) {
            return has(address) && (address & 3) == 0;
        }

        /** The lower two bits of f are the size's power of two. */
        static boolean isStraight(int address, int f) {
            return (address & ((1 << (f & 3)) - 1)) == 0;
        }

        int wordAround(int address) {
            return has(address) ? words[(address - FIRST) >> 2] : 0;
        }

        void setWord(int address, int word) {
            if (has(address)) {
                words[(address - FIRST) >> 2] = word;
            }
        }

        int read(int address, int f) {
            int shifted = wordAround(address) >>> bitsBelow(address);
            switch (f) {
                case 0:
                    return (byte) shifted;
                case 1:
                    return (short) shifted;
                case 4:
                    return shifted & 0xff;
                case 5:
                    return shifted & 0xffff;
                default:
                    return shifted;
            }
        }

        void write(int address, int f, int word) {
            int mask = f == 0 ? 0xff : f == 1 ? 0xffff : -1;
            int place = mask << bitsBelow(address);
            int kept = wordAround(address) & ~place;
            setWord(address, kept | (word << bitsBelow(address) & place));
        }

        private static int bitsBelow(int address) {
            return (address & 3) * 8;
        }
    }

    /** Which lines are in the cache; it has no need of what is in them. */
    private static final class Cache {
        private static final int PLACES = 4;
        private static final int LINE_BYTES = 16;
        private static final int NO_LINE = -1;

        private final int wait;
        private final int[] lineIn = new int[PLACES];
        private final boolean[] wasWritten = new boolean[PLACES];

        Cache(int latency) {
            wait = 4 * Math.max(1, Math.min(8, latency));
            Arrays.fill(lineIn, NO_LINE);
        }

        /** Answers the cycles that the access takes beyond the usual one. */
        int visit(int address, boolean writes) {
            int line = (address - Store.FIRST) / LINE_BYTES;
            int place = line & (PLACES - 1);
            int extra = 0;
            if (lineIn[place] != line) {
                extra = wasWritten[place] ? 2 * wait : wait;
                lineIn[place] = line;
                wasWritten[place] = false;
            }
            if (writes) {
                wasWritten[place] = true;
            }
            return extra;
        }
    }

    /**
     * The entries, at three ages: as they are, and as they were before each of the latest two
     * changes. A fetch is worked out only when the instruction before it has begun, and by then
     * that one and the one before it may have changed what the fetch found.
     */
    private static final class Foreteller {
        private static final int ENTRIES = 4;
        private static final int EARLIER = 2;
        private static final int NO_ADDRESS = -1;

        private final int[] addresses = new int[ENTRIES * (EARLIER + 1)];
        private final int[] targets = new int[ENTRIES * (EARLIER + 1)];
        private final int[] counts = new int[ENTRIES * (EARLIER + 1)];
        private final int[] changedIn = new int[EARLIER];

        Foreteller() {
            Arrays.fill(addresses, NO_ADDRESS);
        }

        /** By the entries as those that began before a cycle left them. */
        int foretell(int address, int inCycle) {
            int age = 0;
            for (int i = 0; i < EARLIER; i++) {
                if (changedIn[i] >= inCycle) {
                    age = i + 1;
                }
            }
            int entry = age * ENTRIES + entryFor(address);
            boolean known = addresses[entry] == address && counts[entry] >= 2;
            return known ? targets[entry] : address + 4;
        }

        void learn(int address, boolean jumps, int target, int inCycle) {
            int entry = entryFor(address);
            boolean known = addresses[entry] == address;
            if (!known && !jumps) {
                return;
            }
            keepEarlier(inCycle);
            if (!jumps) {
                counts[entry] = Math.max(0, counts[entry] - 1);
                return;
            }
            counts[entry] = known ? Math.min(3, counts[entry] + 1) : 2;
            addresses[entry] = address;
            targets[entry] = target;
        }

        private static int entryFor(int address) {
            return address >> 2 & (ENTRIES - 1);
        }

        private void keepEarlier(int inCycle) {
            for (int i = ENTRIES * (EARLIER + 1) - 1; i >= ENTRIES; i--) {
                addresses[i] = addresses[i - ENTRIES];
                targets[i] = targets[i - ENTRIES];
                counts[i] = counts[i - ENTRIES];
            }
            changedIn[1] = changedIn[0];
            changedIn[0] = inCycle;
        }
    }

    /** The latest instructions that ended. */
    private static final class History {
        private static final int KEPT = 16;

        private final int[] addresses = new int[KEPT];
        private final int[] times = new int[KEPT];
        int total;

        void add(int address, int time) {
            int place = total & (KEPT - 1);
            addresses[place] = address;
            times[place] = time;
            total++;
        }

        boolean has(int i) {
            return i >= 0 && i < KEPT && i < total;
        }

        int address(int i) {
            return addresses[placeOf(i)];
        }

        int time(int i) {
            return times[placeOf(i)];
        }

        private int placeOf(int i) {
            return total - 1 - i & (KEPT - 1);
        }
    }
}
