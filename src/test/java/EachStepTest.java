// A step follows from the registers and the memory alone, whatever the step before it was. After each instruction, each other one
// is run twice: on the machine that has done the first, and on a new one to which registers and memory have been carried over.
public final class EachStepTest extends Bench {
    private static final String[] INSTRUCTIONS = {
        "00 CB", "01 1C 8F", "02 43 10", "03 84 33 10 00 00 00", "04 7F", "05 FF FF FF 7F", "38 6D 04", "39 05 C8 00 00 00", "12 E1",
        "80 33 81", "81 44 24 08 04 03 02 01", "83 D9 FE", "83 3C 8B 7F", "40", "4C", "FF 07", "FF 4B 04", "50", "54", "5C", "5F",
        "68 04 03 02 01", "6A 80", "FF 33", "FF F4", "70 10", "75 F0", "0F 84 10 00 00 00", "0F 8D 10 00 00 00", "EB 04",
        "E9 04 00 00 00", "FF E3", "FF 63 04", "E8 04 00 00 00", "FF D7", "FF 94 73 08 00 00 00", "C3", "84 43 08", "85 DB", "88 23",
        "89 1C 73", "8A 6B 01", "8B 9C B3 F0 FF FF FF", "B4 55", "BE 04 03 02 01", "C6 47 02 99", "C7 84 8F 00 00 00 00 04 03 02 01",
        "8D 44 8B 7F", "90", "99", "0F 92 43 03", "0F 9F C4", "0F B6 6F 01", "0F B6 D6", "0F AF 73 04", "0F AF C3", "C1 23 05",
        "C1 EB 00", "D1 7C 73 04", "D3 63 08", "F7 13", "F7 DB", "F7 23", "F7 7B 04", "F7 FE", "F5", "F8", "F9", "FC", "FD", "FA", "FB",
        "A4", "AA", "F3 A4", "F3 AA", "E6 21", "CD 21", "CC", "CF", "0F 20 C3", "0F 22 D6", "06", "0F FF", "F3 90", "8D C0", "FF 3B",
        "8B 9C B3 F0 FF FF 7F", "89 3D 00 00 00 80", "A1"};

    private static final int VISIBLE = 16;
    private static final int LATER = 32;

    private static Pc32 machine(boolean paging, int cpl, String hex) {
        int data = paging ? DATA : 0xC0;
        int[] registers = {EAX, 0x80FF7F81, ECX, 3, EDX, -1, EBX, data + 4, EBP, data + 8, ESI, 12, EDI, data + 32, FLAGS, CF | OF};
        if (!paging) return flat(cpl, hex, registers);
        Pc32 x = paged(cpl, hex, registers);
        set(x, CR5, STACK_END - 32);
        return x;
    }

    private static Pc32 copyOf(Pc32 x) {
        Pc32 y = new Pc32(16);
        long[] all = memory(x);
        for (int i = 0; i < all.length; i++) y.poke(8 * i, all[i], 8);
        for (int i = 0; i < VISIBLE; i++) y.setReg(i, x.reg(i));
        return y;
    }

    private static void sameStep(String what, Pc32 x) {
        Pc32 y = copyOf(x);
        int deliveries = x.reg(DELIVERIES);
        int writes = x.portWrites();
        Expect.same(what + ": run", x.run(1), y.run(1));
        for (int i = 0; i < VISIBLE; i++) Expect.same(what + ": reg " + i, x.reg(i), y.reg(i));
        sameMemory(what, x, memory(y));
        Expect.same(what + ": status", x.status(), y.status());
        Expect.same(what + ": deliveries", x.reg(DELIVERIES) - deliveries, y.reg(DELIVERIES));
        if (y.reg(DELIVERIES) != 0) has(what, x, VECTOR, y.reg(VECTOR), ERROR, y.reg(ERROR));
        Expect.same(what + ": port writes", x.portWrites() - writes, y.portWrites());
        if (y.portWrites() != 0) Expect.same(what + ": port write", x.portWrite(0), y.portWrite(0));
    }

    private static void inEveryOrder(boolean paging, int cpl) {
        int code = paging ? 0x80 : FLAT_CODE;
        for (String first : INSTRUCTIONS) {
            for (String second : INSTRUCTIONS) {
                Pc32 x = machine(paging, cpl, first);
                String what = first + ", then " + second + (paging ? ", paged" : "") + " at CPL " + cpl;
                Expect.same(what + ": first run", x.run(1), 1);
                Expect.load(x, code + LATER, second);
                x.setReg(EIP, (paging ? CODE : FLAT_CODE) + LATER);
                sameStep(what, x);
            }
        }
    }

    public static void main(String[] args) {
        says("Else one instruction is fetched at EIP, decoded, executed.");
        for (int cpl = 0; cpl <= 3; cpl += 3) {
            inEveryOrder(false, cpl);
            inEveryOrder(true, cpl);
        }
        Expect.end("EachStepTest");
    }
}
