// Promises 1 to 13 together: many machines with made-up programs, page tables and interrupt tables are run beside
// ReferencePc, and every answer is compared. The numbers come from a fixed row, so every run of the test is the same.
public final class ReferenceTest {
    private static final int MACHINES = 60000;
    // An object is used for at most 512 calls; the last look at a machine needs fewer than this many of them.
    private static final int CALLS_TO_ROUNDS = 512 - 220;

    private static final int[] OPCODES = {
        0x00, 0x01, 0x02, 0x03, 0x04, 0x05, 0x09, 0x10, 0x11, 0x13, 0x14, 0x15, 0x18, 0x19, 0x1A, 0x1B, 0x21, 0x28, 0x29, 0x2B,
        0x30, 0x33, 0x38, 0x39, 0x3A, 0x3B, 0x3C, 0x3D, 0x40, 0x43, 0x48, 0x4E, 0x50, 0x54, 0x55, 0x58, 0x5C, 0x5F, 0x68, 0x6A,
        0x70, 0x75, 0x7C, 0x7F, 0x80, 0x81, 0x83, 0x84, 0x85, 0x88, 0x89, 0x8A, 0x8B, 0x8D, 0x90, 0x99, 0xA4, 0xAA,
        0xB0, 0xB4, 0xB7, 0xB8, 0xBC, 0xC1, 0xD1, 0xD3, 0xC3, 0xC6, 0xC7, 0xCC, 0xCD, 0xCF, 0xE6, 0xE8, 0xE9, 0xEB, 0xF4, 0xF5,
        0xF7, 0xF7, 0xF8, 0xF9, 0xFA, 0xFB, 0xFC, 0xFD, 0xFF, 0xFF, 0x1F0, 0x1F0, 0x1F0, 0x1F1, 0x1F1};
    private static final int[] SECONDS = {0x20, 0x22, 0x80, 0x84, 0x8F, 0x90, 0x95, 0x9E, 0xAF, 0xB6};
    private static final int[] EDGES = {0, 1, -1, 0x7F, 0x80, 0xFF, 0x7FFFFFFF, 0x80000000, 0x80000001, 31, 32, 0x3FF, 0x400, 0xFFC};

    private static long row = 88172645463325252L;
    private static final long[] reached = new long[3];
    private static final long[] vectors = new long[256];

    private final Pc32 x;
    private final ReferencePc y;
    private final String name;
    private final int interruptTable = 2 * any(448);
    private final int directory = 16 * any(63);
    private final int tables = 16 * any(60);
    private int calls = 0;

    private ReferenceTest(int number) {
        int frames = any(3) == 0 ? any(24) - 2 : 16;
        name = "machine " + number;
        x = new Pc32(frames);
        y = new ReferencePc(frames);
    }

    private static int any(int bound) {
        row ^= row << 13;
        row ^= row >>> 7;
        row ^= row << 17;
        return (int) ((row >>> 16) % bound);
    }

    private static int value() {
        switch (any(8)) {
            case 0: return EDGES[any(EDGES.length)];
            case 1: return (any(1 << 16) << 16) | any(1 << 16);
            case 2: return -any(64);
            default: return any(1024);
        }
    }

    private void same(String call, long got, long want) {
        calls++;
        if (got != want) Expect.same(name + ", call " + calls + ", " + call, got, want);
        else Expect.same("", 0, 0);
    }

    private void poke(int at, long bytes, int count) {
        same("poke", x.poke(at, bytes, count) ? 1 : 0, y.poke(at, bytes, count) ? 1 : 0);
    }

    private void setReg(int which, int value) {
        same("setReg", x.setReg(which, value) ? 1 : 0, y.setReg(which, value) ? 1 : 0);
    }

    private static int instruction(byte[] bytes, int start) {
        int at = start;
        int op = any(12) == 0 ? any(256) : OPCODES[any(OPCODES.length)];
        if (op == 0x1F0) {
            bytes[at++] = 0x0F;
            op = any(12) == 0 ? any(256) : SECONDS[any(SECONDS.length)];
        } else if (op == 0x1F1) {
            bytes[at++] = (byte) 0xF3;
            op = any(16) == 0 ? any(256) : any(2) == 0 ? 0xA4 : 0xAA;
        }
        bytes[at++] = (byte) op;
        if (any(3) == 0) return at;
        bytes[at++] = (byte) (any(4) == 0 ? 0xC0 | any(64) : any(256));
        int more = any(7);
        for (int i = 0; i < more; i++) bytes[at++] = (byte) (any(2) == 0 ? 0 : any(3) == 0 ? any(256) : any(4));
        return at;
    }

    private void pokeAll(int at, byte[] bytes, int count) {
        for (int i = 0; i < count; i += 8) poke(at + i, java.nio.ByteBuffer.wrap(bytes, i, 8).getLong(), 8);
    }

    private void pokeHalves(int at, int[] halves) {
        for (int i = 0; i < halves.length; i += 4) {
            long eight = 0;
            for (int j = 3; j >= 0; j--) eight = (eight << 16) | halves[i + j];
            poke(at + 2 * i, eight, 8);
        }
    }

    private static int rights() {
        int bits = 7 | (any(4) << 3) | (any(4) << 10);
        return any(6) == 0 ? bits & ~(1 << any(3)) : bits;
    }

    private void lay() {
        byte[] program = new byte[1100];
        int end = 0;
        while (end < 1024) end = instruction(program, end);
        pokeAll(0, program, 1024);
        int[] entries = new int[64];
        for (int v = 0; v < 64; v++) entries[v] = any(12) == 0 ? any(2) << 15 : any(1 << 10) | (any(2) << 15);
        pokeHalves(interruptTable, entries);
        if (any(4) == 0) return;
        int[] d = new int[8];
        for (int i = 0; i < 8; i++) d[i] = (tables + 16 * any(4)) | rights();
        pokeHalves(directory, d);
        int[] t = new int[32];
        for (int i = 0; i < 32; i++) t[i] = (any(16) << 6) | rights();
        pokeHalves(tables, t);
    }

    private void setRegisters() {
        for (int i = 0; i < 8; i++) setReg(i, value());
        if (any(4) != 0) setReg(4, 256 + any(700));
        setReg(8, any(8) == 0 ? value() : any(900));
        setReg(9, value() | (any(2) << 9));
        setReg(10, any(2) == 0 ? 0 : value() | 0x80000000);
        setReg(12, any(8) == 0 ? value() : directory);
        setReg(13, any(8) == 0 ? value() : interruptTable);
        setReg(14, any(4) == 0 ? value() : 64 + any(900));
        setReg(15, any(2) == 0 ? 0 : value());
    }

    private void round() {
        int vector = 30 + any(20);
        if (any(4) == 0) same("irq(" + vector + ")", x.irq(vector) ? 1 : 0, y.irq(vector) ? 1 : 0);
        int limit = any(3) == 0 ? any(260) - 20 : 1 + any(3);
        same("run(" + limit + ")", x.run(limit), y.run(limit));
        for (int i = 0; i < 20; i++) same("reg(" + i + ")", x.reg(i), y.reg(i));
        same("status", x.status(), y.status());
        reached[y.status()]++;
        if (y.reg(18) >= 0) vectors[y.reg(18)]++;
        if (any(12) == 0) {
            x.reset();
            y.reset();
            calls++;
        }
        if (any(3) == 0) setRegisters();
    }

    private void lastLook() {
        for (int i = -1; i <= 21; i++) same("reg(" + i + ")", x.reg(i), y.reg(i));
        same("portWrites", x.portWrites(), y.portWrites());
        for (int i = -1; i <= 16; i++) same("portWrite(" + i + ")", x.portWrite(i), y.portWrite(i));
        for (int i = 0; i <= 1024; i += 8) same("peek(" + i + ", 8)", x.peek(i, 8), y.peek(i, 8));
        for (int kind = -4; kind < 4; kind++) {
            int a = value();
            same("translate(" + a + ", " + kind + ")", x.translate(a, kind), y.translate(a, kind));
        }
        Expect.yes("an object is used for at most 512 calls", calls <= 512);
    }

    private void use() {
        lay();
        setRegisters();
        while (calls < CALLS_TO_ROUNDS) round();
        lastLook();
    }

    public static void main(String[] args) {
        int machines = args.length > 0 ? Integer.parseInt(args[0]) : MACHINES;
        if (args.length > 1) row += Long.parseLong(args[1]) * 7919;
        for (int i = 0; i < machines; i++) new ReferenceTest(i).use();
        for (int i = 0; i < 3; i++) Expect.yes("status " + i + " was reached", reached[i] > 0);
        for (int v : new int[] {0, 3, 6, 8, 13, 14, 32, 47}) Expect.yes("vector " + v + " was delivered", vectors[v] > 0);
        Expect.end("ReferenceTest");
    }
}
