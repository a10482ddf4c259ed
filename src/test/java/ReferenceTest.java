import java.util.TreeMap;

// Promises 1 to 13 together: many machines with made-up instructions, page tables and interrupt tables are run beside
// ReferencePc, and every answer is compared. The numbers come from a fixed row, so every run of the test is the same.
public final class ReferenceTest {
    private static final int MACHINES = 150000;
    private static final int MAX_CALLS = 512;
    private static final int CALLS_OF_A_ROUND = 66;

    private static final String FORMS = "00 01 02 03 04 05 08 09 0A 0B 0C 0D 10 11 12 13 14 15 18 19 1A 1B 1C 1D 20 21 22 23 24 25"
        + " 28 29 2A 2B 2C 2D 30 31 32 33 34 35 38 39 3A 3B 3C 3D 40 44 47 48 4C 4F 50 54 57 58 5C 5F 68 6A"
        + " 70 71 72 73 74 75 76 77 78 79 7A 7B 7C 7D 7E 7F 80 81 83 84 85 88 89 8A 8B 8D 90 99 A4 AA B0 B4 B7 B8 BC BF"
        + " C1 C3 C6 C7 CC CD CF D1 D3 E6 E8 E9 EB F4 F5 F7 F8 F9 FA FB FC FD FF 0F20 0F22"
        + " 0F80 0F81 0F82 0F83 0F84 0F85 0F86 0F87 0F88 0F89 0F8A 0F8B 0F8C 0F8D 0F8E 0F8F"
        + " 0F90 0F91 0F92 0F93 0F94 0F95 0F96 0F97 0F98 0F99 0F9A 0F9B 0F9C 0F9D 0F9E 0F9F 0FAF 0FB6 F3A4 F3AA";
    private static final String[] OPCODES = FORMS.split(" ");
    private static final String IN_MEMORY = "00 01 02 03 10 19 21 2A 33 38 3B 50 58 68 6A 80 81 83 84 85 88 89 8A 8B A4 AA C1 C3 C6 C7 CF"
        + " D1 D3 E8 F7 FF 0F90 0F9F 0FAF 0FB6 F3A4 F3AA";
    private static final String[] GROUPS = {"80", "81", "83", "C1", "D1", "D3", "F7", "FF"};
    private static final int[] EDGES = {0, 1, -1, 0x7F, 0x80, 0xFF, 0x7FFFFFFF, 0x80000000, 0x80000001, 31, 32, 0x3FF, 0x400, 0xFFD};

    private static long row = 88172645463325252L;
    private static final long[] reached = new long[3];
    private static final long[] vectors = new long[256];
    // How often the first step of a round carried the form out, and how often it ended in fault 13 or 14.
    private static final TreeMap<String, Integer> done = new TreeMap<>();
    private static final TreeMap<String, Integer> faulted = new TreeMap<>();

    private final Pc32 x;
    private final ReferencePc y;
    private final String name;
    private final int size;
    private final int interruptTable;
    private final int directory;
    private final int tables;
    private int calls = 0;
    private String opcode = "";

    private ReferenceTest(int number) {
        int frames = any(6) == 0 ? any(24) - 2 : 4 + any(13);
        name = "machine " + number;
        x = new Pc32(frames);
        y = new ReferencePc(frames);
        size = y.reg(20);
        interruptTable = 2 * any(size / 2 - 60);
        directory = 16 * any(size / 16);
        tables = 16 * any(size / 16 - 3);
    }

    private static int any(int bound) {
        row ^= row << 13;
        row ^= row >>> 7;
        row ^= row << 17;
        return (int) ((row >>> 16) % bound);
    }

    private int value() {
        switch (any(10)) {
            case 0: return EDGES[any(EDGES.length)];
            case 1: return (any(1 << 16) << 16) | any(1 << 16);
            case 2: return -any(64);
            case 3: return any(4096);
            case 4: return 64 * any(64) - any(4);
            default: return any(size);
        }
    }

    private void same(String call, long got, long want) {
        calls++;
        if (got != want) Expect.same(name + ", call " + calls + " after " + opcode + ", " + call, got, want);
        else Expect.same("", 0, 0);
    }

    private void poke(int at, long bytes, int count) {
        same("poke", x.poke(at, bytes, count) ? 1 : 0, y.poke(at, bytes, count) ? 1 : 0);
    }

    private void setReg(int which, int value) {
        same("setReg", x.setReg(which, value) ? 1 : 0, y.setReg(which, value) ? 1 : 0);
    }

    private static int rights() {
        int bits = 7 | (any(4) << 3) | (any(4) << 10);
        return any(8) == 0 ? bits & ~(1 << any(3)) : bits;
    }

    private void pokeHalves(int at, int[] halves) {
        for (int i = 0; i < halves.length; i += 4) {
            long eight = 0;
            for (int j = 3; j >= 0; j--) eight = (eight << 16) | halves[i + j];
            poke(at + 2 * i, eight, 8);
        }
    }

    private void layTables() {
        for (int at = 0; at < size; at += 16) poke(at, any(1 << 30) * 0x123456789L, 8);
        int[] entries = new int[48];
        for (int v = 0; v < 48; v++) entries[v] = any(12) == 0 ? any(2) << 15 : any(1 << 10) | (any(2) << 15);
        pokeHalves(interruptTable, entries);
        int[] d = new int[8];
        for (int i = 0; i < 8; i++) d[i] = ((tables + 16 * any(3)) & 0x3F0) | (rights() & ~16);
        pokeHalves(directory, d);
        int[] t = new int[24];
        for (int i = 0; i < 24; i++) t[i] = (any(size / 64) << 6) | rights();
        pokeHalves(tables, t);
        if (any(4) == 0) poke(2 * any(size / 2 - 4), any(1 << 30) * 0x123456789L, 8);
    }

    private void setRegisters() {
        for (int i = 0; i < 8; i++) setReg(i, value());
        if (any(4) != 0) setReg(4, size / 4 + any(size / 2));
        if (any(4) == 0) setReg(1, any(4));
        setReg(9, value() | (any(2) << 9));
        setReg(10, any(3) == 0 ? 0 : value() | 0x80000000);
        if (any(8) == 0) setReg(11, value());
        setReg(12, any(12) == 0 ? value() : directory);
        setReg(13, any(12) == 0 ? value() : interruptTable);
        setReg(14, any(4) == 0 ? value() : size / 4 + any(size / 2));
        setReg(15, any(2) == 0 ? 0 : value());
        int eip = any(16) == 0 ? value() : any(size);
        setReg(8, any(3) == 0 ? (eip | 63) - any(6) : eip);
    }

    private int[] instruction() {
        int[] bytes = new int[9];
        opcode = OPCODES[any(OPCODES.length)];
        if (any(5) == 0) opcode = GROUPS[any(GROUPS.length)];
        int at = 0;
        for (int i = 0; i < opcode.length(); i += 2) bytes[at++] = Integer.parseInt(opcode.substring(i, i + 2), 16);
        if (any(40) == 0) bytes[at - 1] = any(256);
        if (any(40) == 0) bytes[0] = any(256);
        bytes[at++] = any(3) == 0 ? 0xC0 | any(64) : any(256);
        while (at < 9) bytes[at++] = any(3) != 0 ? any(3) : any(256);
        return bytes;
    }

    /** Stores an instruction where EIP leads, byte by byte, as far as its bytes are translated. */
    private void placeInstruction() {
        int[] bytes = instruction();
        int kind = y.reg(15) == 3 ? 2 : 0;
        for (int i = 0; i < bytes.length; i++) {
            int at = y.translate(y.reg(8) + i, kind);
            if (at >= 0) poke(at, bytes[i], 1);
        }
    }

    private void firstStep() {
        int before = y.reg(17);
        int first = y.translate(y.reg(8), y.reg(15) == 3 ? 2 : 0);
        boolean placed = first >= 0 && y.peek(first, 1) == Integer.parseInt(opcode.substring(0, 2), 16);
        boolean free = y.reg(16) < 0 && y.status() == 0;
        same("run(1)", x.run(1), y.run(1));
        if (!placed || !free) return;
        if (y.reg(17) == before && y.status() != 2) done.merge(opcode, 1, Integer::sum);
        if (y.reg(17) != before && (y.reg(18) == 14 || y.reg(18) == 13)) faulted.merge(opcode, 1, Integer::sum);
    }

    private void round() {
        if (y.status() == 2 || any(12) == 0) {
            x.reset();
            y.reset();
            calls++;
        }
        setRegisters();
        placeInstruction();
        int vector = 30 + any(20);
        if (any(10) == 0) same("irq(" + vector + ")", x.irq(vector) ? 1 : 0, y.irq(vector) ? 1 : 0);
        firstStep();
        int limit = any(3) == 0 ? any(260) - 20 : any(4) - 1;
        if (any(2) == 0) same("run(" + limit + ")", x.run(limit), y.run(limit));
        for (int i = 0; i < 20; i++) same("reg(" + i + ")", x.reg(i), y.reg(i));
        same("status", x.status(), y.status());
        reached[y.status()]++;
        if (y.reg(18) >= 0) vectors[y.reg(18)]++;
    }

    private void lastLook() {
        for (int i = -1; i <= 21; i++) same("reg(" + i + ")", x.reg(i), y.reg(i));
        same("portWrites", x.portWrites(), y.portWrites());
        for (int i = -1; i <= 16; i++) same("portWrite(" + i + ")", x.portWrite(i), y.portWrite(i));
        for (int i = 0; i <= size; i += 8) same("peek(" + i + ", 8)", x.peek(i, 8), y.peek(i, 8));
        for (int kind = -4; kind < 4; kind++) {
            int a = value();
            same("translate(" + a + ", " + kind + ")", x.translate(a, kind), y.translate(a, kind));
        }
        Expect.yes("an object is used for at most 512 calls", calls <= MAX_CALLS);
    }

    private void use() {
        layTables();
        int look = 60 + size / 8;
        while (calls + CALLS_OF_A_ROUND + look < MAX_CALLS) round();
        lastLook();
    }

    public static void main(String[] args) {
        int machines = args.length > 0 ? Integer.parseInt(args[0]) : MACHINES;
        if (args.length > 1) row += Long.parseLong(args[1]) * 7919;
        for (int i = 0; i < machines; i++) new ReferenceTest(i).use();
        for (int i = 0; i < 3; i++) Expect.yes("status " + i + " was reached", reached[i] > 0);
        for (int v : new int[] {0, 3, 6, 8, 13, 14, 32, 47}) Expect.yes("vector " + v + " was delivered", vectors[v] > 0);
        for (String form : OPCODES) {
            boolean interrupt = form.equals("CC") || form.equals("CD");
            if (!interrupt) Expect.yes("form " + form + " was carried out", done.getOrDefault(form, 0) > machines / 1000);
        }
        for (String form : IN_MEMORY.split(" ")) {
            Expect.yes("form " + form + " faulted", faulted.getOrDefault(form, 0) > machines / 10000);
        }
        Expect.end("ReferenceTest");
    }
}
