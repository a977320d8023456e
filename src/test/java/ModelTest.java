import java.util.Random;

/** Random programs, lines and questions: the class must answer as the document's formulas do. */
final class ModelTest {
    private static final int PROGRAMS = 4000;
    private static final int ROUNDS = 24;
    private static final int QUESTIONS = 11;
    private static final int HANDLER = 110;
    private static final int[] NUMBERS = {
        0, 1, 2, 3, 4, 7, 8, 15, 16, 31, 32, 136, 255, 1024, 1028, 1040, 1088, 1152, 1276, 2047,
        -1, -2, -4, -2048, Integer.MIN_VALUE, Integer.MAX_VALUE, 0x12345678};

    private final Due due;
    private final Random random;
    private final int number;
    private final PipelinedCore core;
    private final Model model;

    private ModelTest(Due due, int number) {
        this.due = due;
        this.number = number;
        random = new Random(number);
        int latency = random.nextInt(12) - 1;
        core = new PipelinedCore(latency);
        model = new Model(latency);
    }

    public static void main(String[] args) {
        Due due = new Due();
        for (int i = 0; i < PROGRAMS && !due.isBad(); i++) {
            new ModelTest(due, i).compare();
        }
        due.close();
    }

    private void compare() {
        writeProgram();
        for (int i = 0; i < 16; i++) {
            int address = 1024 + 4 * random.nextInt(64);
            int word = anyNumber();
            due.holds("data", core.data(address, word));
            model.data(address, word);
        }
        for (int round = 0; round < ROUNDS; round++) {
            if (random.nextInt(3) == 0) {
                int mask = random.nextInt(4096) & 2184 & -random.nextInt(2);
                due.holds("lines", core.lines(mask));
                model.lines(mask);
            }
            int n = random.nextInt(6) == 0 ? 1 + random.nextInt(60) : 1 + random.nextInt(8);
            due.same(label("run", n), core.run(n), model.run(n));
            for (int i = 0; i < QUESTIONS; i++) {
                ask();
            }
        }
    }

    private String label(String call, int argument) {
        return "program " + number + ", cycle " + model.figure(0) + ": " + call + "(" + argument + ")";
    }

    private void ask() {
        int i = random.nextInt(36) - 2;
        int address = 4 * random.nextInt(129) + (random.nextInt(10) == 0 ? random.nextInt(4) : 0);
        switch (random.nextInt(7)) {
            case 0 -> due.same(label("reg", i), core.reg(i), model.reg(i));
            case 1 -> {
                int control = Asm.CONTROLS[random.nextInt(8)];
                due.same(label("control", control), core.control(control), model.control(control));
            }
            case 2 -> due.same(label("word", 900 + address), core.word(900 + address),
                model.word(900 + address));
            case 3 -> {
                int which = random.nextInt(2);
                due.same(label("ended " + which, i), core.ended(i, which), model.ended(i, which));
            }
            case 4 -> {
                int stage = 1 + random.nextInt(5);
                due.same(label("stage", stage), core.stage(stage), model.stage(stage));
            }
            case 5 -> due.same(label("foretold", address), core.foretold(address),
                model.foretold(address));
            default -> {
                int k = random.nextInt(8) - 1;
                due.same(label("figure", k), core.figure(k), model.figure(k));
            }
        }
    }

    private void put(int n, int word) {
        due.holds("code", core.code(n, word));
        model.code(n, word);
    }

    /** A start that sets things up, a body of any instructions in a loop, and a handler. */
    private void writeProgram() {
        int n = 0;
        put(n++, Asm.set(1, 1024));
        put(n++, Asm.set(2, 1024 + 4 * random.nextInt(64)));
        put(n++, Asm.set(31, 4 * HANDLER + random.nextInt(2)));
        put(n++, Asm.control(1, 0, 31, Asm.VECTOR));
        put(n++, Asm.control(6, 0, 8, Asm.ENABLED));
        put(n++, Asm.set(30, random.nextInt(2) * 2184));
        put(n++, Asm.control(2, 0, 30, Asm.ENABLED));
        put(n++, Asm.upper(3, anyNumber()));
        put(n++, Asm.set(4, anyNumber()));
        put(n++, Asm.control(6, 0, random.nextInt(2) * 8, Asm.STATUS));
        int start = n;
        int length = 4 + random.nextInt(50);
        for (int i = 0; i < length; i++) {
            put(n++, anyInstruction());
        }
        put(n, Asm.jump(0, 4 * (start - n)));
        for (int i = HANDLER; i < HANDLER + 12; i++) {
            put(i, Asm.control(2, 29, 0, Asm.RETURN_TO));
        }
        put(HANDLER + 12, Asm.add(29, 29, 4));
        put(HANDLER + 13, Asm.control(1, 0, 29, Asm.RETURN_TO));
        put(HANDLER + 14, random.nextInt(3) > 0 ? Asm.RETURN : anyInstruction());
        put(HANDLER + 15, Asm.RETURN);
    }

    private int anyNumber() {
        return random.nextInt(4) == 0 ? random.nextInt() : NUMBERS[random.nextInt(NUMBERS.length)];
    }

    private int anyRegister() {
        return random.nextInt(12) == 0 ? random.nextInt(32) : random.nextInt(8);
    }

    private int anyOffset() {
        return random.nextInt(12) == 0 ? random.nextInt(4096) - 2048 : 4 * random.nextInt(32);
    }

    private int anyInstruction() {
        int rd = anyRegister();
        int a = anyRegister();
        int b = anyRegister();
        int base = random.nextInt(4) == 0 ? a : 1 + random.nextInt(2);
        int by = 4 * (random.nextInt(24) - 10) + (random.nextInt(12) == 0 ? 2 : 0);
        int control = Asm.CONTROLS[random.nextInt(8)];
        int safeControl = random.nextInt(4) == 0 ? control : Asm.SCRATCH;
        switch (random.nextInt(16)) {
            case 0:
                return Asm.upper(rd, anyNumber());
            case 1:
                return Asm.upperAndPc(rd, anyNumber());
            case 2:
                return Asm.jump(rd, by);
            case 3:
                return Asm.jumpTo(rd, random.nextInt(2) * a, 4 * random.nextInt(80) + random.nextInt(3));
            case 4:
            case 5:
                return Asm.branch(random.nextInt(8), a, random.nextInt(2) * b, by);
            case 6:
            case 7:
                return Asm.read(random.nextInt(random.nextInt(8) + 1), keep(rd), base, anyOffset());
            case 8:
            case 9:
                return Asm.write(random.nextInt(random.nextInt(4) + 1), b, base, anyOffset());
            case 10:
                return Asm.withI(19, keep(rd), random.nextInt(8), a, anyNumber());
            case 11:
                return Asm.parts(19, keep(rd), 1 + 4 * random.nextInt(2), a, b, 32 * random.nextInt(2));
            case 12:
                return Asm.parts(51, keep(rd), random.nextInt(8), a, b, random.nextInt(3));
            case 13:
                return Asm.parts(51, keep(rd), 5 * random.nextInt(2), a, b, 32);
            case 14:
                return Asm.control(random.nextInt(8), keep(rd), a, safeControl);
            default:
                return anyWord();
        }
    }

    /** Keeps the registers that hold addresses of data as they are, most of the time. */
    private int keep(int rd) {
        return (rd == 1 || rd == 2) && random.nextInt(4) > 0 ? 5 : rd;
    }

    private int anyWord() {
        int[] whole = {Asm.ECALL, Asm.EBREAK, Asm.WAIT, Asm.RETURN, 15, 0x1000 | 15};
        int choice = random.nextInt(12);
        return choice < whole.length ? whole[choice] : random.nextInt();
    }
}
