import java.util.Random;

/** Any calls with any arguments, right or wrong: 512 on each object, against the model. */
final class AnyCallTest {
    private static final int OBJECTS = 1500;
    private static final int CALLS = 512;
    private static final int FILLED = 48;
    private static final int MIN = Integer.MIN_VALUE;
    private static final int MAX = Integer.MAX_VALUE;
    private static final int[] EDGES = {
        MIN, MIN + 1, -1024, -4, -1, 0, 1, 2, 3, 4, 5, 6, 7, 8, 15, 16, 31, 32, 100, 101, 127, 128,
        136, 508, 512, 768, 772, 773, 832, 836, 837, 1020, 1023, 1024, 1025, 1026, 1028, 1276, 1279,
        1280, 2048, 2184, 2185, MAX - 3, MAX};

    private final Due due;
    private final Random random;
    private final int number;
    private final PipelinedCore core;
    private final Model model;

    private AnyCallTest(Due due, int number) {
        this.due = due;
        this.number = number;
        random = new Random(number);
        int latency = random.nextInt(3) == 0 ? edge() : random.nextInt(10);
        core = new PipelinedCore(latency);
        model = new Model(latency);
    }

    public static void main(String[] args) {
        Due due = new Due();
        for (int i = 0; i < OBJECTS && !due.isBad(); i++) {
            new AnyCallTest(due, i).compare();
        }
        due.close();
    }

    private void compare() {
        int before = random.nextInt(60);
        for (int call = 0; call < CALLS; call++) {
            if (call < FILLED) {
                code(call, anyWord());
            } else if (call < FILLED + before || random.nextInt(12) == 0) {
                set();
            } else if (random.nextInt(3) == 0) {
                run();
            } else {
                ask();
            }
        }
    }

    private int edge() {
        return EDGES[random.nextInt(EDGES.length)];
    }

    private int argument(int below) {
        return random.nextInt(4) == 0 ? edge() : random.nextInt(below);
    }

    private void same(String call, int a, long got, long want) {
        due.same("object " + number + ", cycle " + model.figure(0) + ": " + call + " of " + a, got,
            want);
    }

    private void refusable(String call, int a, boolean got, boolean want) {
        same(call, a, got ? 1 : 0, want ? 1 : 0);
    }

    private void set() {
        int choice = random.nextInt(8);
        boolean early = model.figure(0) == 0;
        if (choice < 3) {
            code(argument(FILLED), anyWord());
        } else if (choice < 6) {
            int address = random.nextBoolean() ? edge() : 1024 + 4 * random.nextInt(64);
            int word = edge();
            boolean right = early && address >= 1024 && address < 1280 && address % 4 == 0;
            refusable("data", address, core.data(address, word), right);
            if (right) {
                model.data(address, word);
            }
        } else {
            int mask = random.nextInt(3) == 0 ? edge() : random.nextInt() & 2184;
            boolean right = (mask & ~2184) == 0;
            refusable("lines", mask, core.lines(mask), right);
            if (right) {
                model.lines(mask);
            }
        }
    }

    private void code(int n, int word) {
        boolean right = model.figure(0) == 0 && n >= 0 && n < 128;
        refusable("code", n, core.code(n, word), right);
        if (right) {
            model.code(n, word);
        }
    }

    private void run() {
        int n = random.nextInt(4) == 0 ? edge() : random.nextInt(12);
        boolean right = n >= 1 && n <= 100;
        same("run", n, core.run(n), right ? model.run(n) : -1);
    }

    private void ask() {
        int a = argument(34);
        int which = argument(3);
        int address = random.nextBoolean() ? edge() : 4 * random.nextInt(320);
        switch (random.nextInt(7)) {
            case 0 -> same("reg", a, core.reg(a), a < 0 || a > 31 ? 0 : model.reg(a));
            case 1 -> same("control", address, core.control(address),
                address < 0 || address > 4095 ? 0 : model.control(address));
            case 2 -> same("word", address, core.word(address), model.word(address));
            case 3 -> same("ended, " + which, a, core.ended(a, which), model.ended(a, which));
            case 4 -> same("stage", which + 2, core.stage(which + 2), model.stage(which + 2));
            case 5 -> same("foretold", address, core.foretold(address), model.foretold(address));
            default -> same("figure", a, core.figure(a), model.figure(a));
        }
    }

    /** Words of which most are instructions; jumps stay near, so that rounds come about. */
    private int anyWord() {
        int rd = random.nextInt(8);
        int a = random.nextInt(8);
        int b = random.nextInt(8);
        int f = random.nextInt(8);
        switch (random.nextInt(20)) {
            case 0:
            case 1:
                return Asm.set(rd, edge());
            case 2:
                return Asm.withI(19, rd, f, a, edge());
            case 3:
                return Asm.parts(51, rd, f, a, b, random.nextInt(2));
            case 4:
                return Asm.jump(rd, 4 * (random.nextInt(17) - 10));
            case 5:
            case 6:
                return Asm.branch(f & 5, a, b, 4 * (random.nextInt(17) - 6));
            case 7:
                return Asm.jumpTo(rd, 0, 4 * random.nextInt(FILLED));
            case 8:
            case 9:
                return Asm.read(f % 3, rd, 0, 1024 + 4 * random.nextInt(64));
            case 10:
            case 11:
                return Asm.write(f % 3, b, 0, 1024 + 4 * random.nextInt(64));
            case 12:
                return random.nextBoolean() ? Asm.read(f, rd, a, edge()) : Asm.write(f, b, a, edge());
            case 13:
                return Asm.control(f, rd, random.nextInt(32), Asm.CONTROLS[random.nextInt(8)]);
            case 14:
                return Asm.control(6, 0, 8, f < 4 ? Asm.STATUS : Asm.ENABLED);
            case 15:
                return Asm.control(5, 0, random.nextInt(32), Asm.VECTOR);
            case 16:
                return random.nextBoolean() ? Asm.RETURN : random.nextInt();
            default:
                return Asm.add(rd, a, f);
        }
    }
}
