/** Puts instruction words together, for the tests. */
final class Asm {
    static final int ECALL = 115;
    static final int EBREAK = 1048691;
    static final int RETURN = 807403635;
    static final int WAIT = 273678451;
    static final int STATUS = 768;
    static final int ENABLED = 772;
    static final int VECTOR = 773;
    static final int SCRATCH = 832;
    static final int RETURN_TO = 833;
    static final int CAUSE = 834;
    static final int VALUE = 835;
    static final int LINES = 836;
    static final int[] CONTROLS = {
        STATUS, ENABLED, VECTOR, SCRATCH, RETURN_TO, CAUSE, VALUE, LINES};

    private Asm() {
    }

    static int parts(int op, int rd, int f, int a, int b, int g) {
        return op | rd << 7 | f << 12 | a << 15 | b << 20 | g << 25;
    }

    static int withI(int op, int rd, int f, int a, int number) {
        return op | rd << 7 | f << 12 | a << 15 | number << 20;
    }

    static int upper(int rd, int upper) {
        return 55 | rd << 7 | upper & 0xfffff000;
    }

    static int upperAndPc(int rd, int upper) {
        return 23 | rd << 7 | upper & 0xfffff000;
    }

    static int jump(int rd, int by) {
        return 111 | rd << 7 | (by >> 20 & 1) << 31 | (by >> 1 & 1023) << 21 | (by >> 11 & 1) << 20
            | (by >> 12 & 255) << 12;
    }

    static int jumpTo(int rd, int a, int number) {
        return withI(103, rd, 0, a, number);
    }

    static int branch(int f, int a, int b, int by) {
        return 99 | f << 12 | a << 15 | b << 20 | (by >> 12 & 1) << 31 | (by >> 5 & 63) << 25
            | (by >> 1 & 15) << 8 | (by >> 11 & 1) << 7;
    }

    static int read(int f, int rd, int a, int number) {
        return withI(3, rd, f, a, number);
    }

    static int write(int f, int b, int a, int number) {
        return parts(35, number & 31, f, a, b, number >> 5 & 127);
    }

    static int add(int rd, int a, int number) {
        return withI(19, rd, 0, a, number);
    }

    static int set(int rd, int number) {
        return add(rd, 0, number);
    }

    static int nothing() {
        return set(0, 0);
    }

    static int control(int f, int rd, int a, int number) {
        return withI(115, rd, f, a, number);
    }
}
