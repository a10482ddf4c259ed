// The sentences of 'Terms' from NUMBERS to MODRM, each with a test of its own for the boundary cases that it names.
public final class TermsEdgeTest extends Bench {
    private static final int LEAST = Integer.MIN_VALUE, GREATEST = Integer.MAX_VALUE;

    // ---- numbers ----

    private static void arithmeticWraps() {
        says("All arithmetic is on 32 bits and wraps unless it is said otherwise.");
        has("ADD", ran("01 C8", EAX, -1, ECX, 3), EAX, 2);
        has("SUB", ran("29 C8", EAX, 0, ECX, 1), EAX, -1);
        has("INC", ran("47", EDI, -1), EDI, 0);
        has("DEC", ran("4F", EDI, 0), EDI, -1);
        has("LEA", ran("8D 04 C8", EAX, LEAST, ECX, 0x30000001), EAX, 8);
        Pc32 x = flat(0, "50", EAX, 0x11223344, ESP, 0);
        long[] before = memory(x);
        notDelivered("PUSH at 0", x);
        has("PUSH at 0", x, ESP, -4);
        sameMemory("PUSH at 0", x, before);
        x = flat(0, "50", EAX, 0x11223344, ESP, 2);
        notDelivered("PUSH at 2", x);
        has("PUSH at 2", x, ESP, -2);
        Expect.same("PUSH at 2", x.peek(0, 4), 0x1122);
        x = flat(0, "58", ESP, -2);
        x.poke(0, 0x2211, 2);
        notDelivered("POP at -2", x);
        has("POP at -2", x, EAX, 0x2211FFFF, ESP, 2);
        x = flat(0, "C3", ESP, -4);
        notDelivered("RET at -4", x);
        has("RET at -4", x, EIP, -1, ESP, 0);
        x = flat(0, "CD 20", ESP, 4);
        delivered("pushes of a delivery", x, 32, -1);
        has("pushes of a delivery", x, ESP, -8);
        Expect.same("pushes of a delivery", x.peek(0, 4), 4);
    }

    private static void iretAcrossTheWrap() {
        Pc32 x = flat(0, "CF", ESP, -4);
        x.poke(0, 0x3001, 4);
        x.poke(4, 0x77, 4);
        notDelivered("IRET at -4", x);
        has("IRET at -4", x, EIP, -1, FLAGS, 3, CPL, 3, ESP, 0x77);
    }

    private static void lowByteFirst() {
        says("Half words (2 bytes) and words (4 bytes) are stored low byte first.");
        Pc32 x = ran("89 05 80 00 00 00", EAX, 0x44332211);
        for (int i = 0; i < 4; i++) Expect.same("byte " + i + " of a word", x.peek(0x80 + i, 1), 0x11 * (i + 1));
        x = with("8B 05 80 00 00 00");
        for (int i = 0; i < 4; i++) x.poke(0x80 + i, 0x11 * (i + 1), 1);
        x.run(1);
        has("a word read", x, EAX, 0x44332211);
        x = flat(0, "CD 20");
        x.poke(FLAT_TABLE + 64, 0x34, 1);
        x.poke(FLAT_TABLE + 65, 0x12, 1);
        x.run(1);
        has("an entry of the interrupt table", x, EIP, 0x1234);
        x = new Pc32(16);
        x.poke(0x40, 0x87, 1);
        x.poke(0x41, 0x01, 1);
        x.poke(0x180, 0x47, 1);
        x.poke(0x181, 0x03, 1);
        set(x, CR0, -1, CR3, 0x40);
        Expect.same("D and T", x.translate(5, 3), 0x345);
    }

    // ---- memory ----

    private static void sizes() {
        says("S = 64 * frames bytes, physical addresses 0 .. S-1, all 0 at first.");
        for (int frames = 4; frames <= 16; frames++) {
            Pc32 x = new Pc32(frames);
            int size = 64 * frames;
            has("S", x, SIZE, size);
            for (int at = 0; at < size; at += 8) Expect.same("at first", x.peek(at, 8), 0);
            Expect.yes("byte 0", x.poke(0, 1, 1));
            Expect.yes("byte S-1", x.poke(size - 1, 2, 1));
            Expect.no("byte S", x.poke(size, 3, 1));
            Expect.no("byte -1", x.poke(-1, 3, 1));
            Expect.same("byte 0", x.peek(0, 1), 1);
            Expect.same("byte S-1", x.peek(size - 1, 1), 2);
        }
    }

    private static Pc32 small(int frames, String hex, int... registersAndValues) {
        Pc32 x = new Pc32(frames);
        for (int at = 0; at < 64 * frames; at += 8) x.poke(at, 0x1716151413121110L + at, 8);
        Expect.load(x, 0x40, hex);
        set(x, EIP, 0x40, ESP, 0xC0);
        set(x, registersAndValues);
        return x;
    }

    private static void pastTheEnd() {
        says("A byte at a physical address of S or more (unsigned) reads as 255, and a write to it is lost.");
        for (int frames : new int[] {4, 5, 15, 16}) {
            int size = 64 * frames;
            for (int at : new int[] {size, size + 1, size + 64, 1024, 1024 + 64, 0x10000, GREATEST, LEAST, LEAST + 64, -256, -5}) {
                Pc32 x = small(frames, "8A 05" + imm(at, 4) + "8B 0D" + imm(at, 4) + "C6 05" + imm(at, 4) + "55 89 15" + imm(at, 4)
                    + "8B 3D" + imm(at, 4), EDX, 0x66778899);
                long[] before = memory(x);
                Expect.same("run", x.run(5), 5);
                has("read at " + at, x, EAX, 255, ECX, -1);
                has("read again after the writes", x, EDI, -1, DELIVERIES, 0);
                sameMemory("writes at " + at, x, before);
            }
            Pc32 x = small(frames, "8B 05" + imm(size - 1, 4) + "89 15" + imm(size - 3, 4), EDX, 0x66778899);
            int last = (int) x.peek(size - 1, 1);
            long[] before = memory(x);
            before[before.length - 1] = (before[before.length - 1] & 0xFFFFFFFFFFL) | 0x7788990000000000L;
            x.run(2);
            has("a word over the end", x, EAX, 0xFFFFFF00 | last);
            sameMemory("a word over the end", x, before);
        }
    }

    private static void pastTheEndBelowZero() {
        Pc32 x = small(4, "8B 05 FF FF FF FF 89 15 FD FF FF FF", EDX, 0x66778899);
        long[] before = memory(x);
        before[0] = (before[0] & ~0xFFL) | 0x66;
        x.run(2);
        has("the word at -1", x, EAX, 0x121110FF);
        sameMemory("the word at -3", x, before);
        // Fetch: FF FF is no form, and its return address is S.
        x = small(4, "", EIP, 0x100, CR4, 0x80);
        x.poke(0x80 + 12, 0x123, 2);
        x.run(1);
        has("fetch past the end", x, VECTOR, 6, EIP, 0x123);
        Expect.same("return address", x.peek(0xB4, 4), 0x100);
        // A frame past the end: reads 255, takes no write, but its T is marked.
        x = small(4, "", CR0, -1, CR3, 0x80, EIP, 64, ESI, 2, EAX, 0x11223344);
        x.poke(0x80, 0x97, 2);
        x.poke(0x90, 0x00470107, 4);
        Expect.load(x, 0x40, "8B 0E 89 06 8B 16");
        before = memory(x);
        Expect.same("run", x.run(3), 3);
        has("a frame past the end", x, ECX, -1, EDX, -1, DELIVERIES, 0);
        Expect.same("its T", x.peek(0x90, 2), 0x11F);
        for (int i = 0; i < before.length; i++) {
            if (i != 16 && i != 18) Expect.same("a frame past the end, memory at " + 8 * i, x.peek(8 * i, 8), before[i]);
        }
    }

    // ---- registers ----

    private static void byteRegisters() {
        says("Byte register n is the low byte of general register n for n = 0..3 (0 is AL, 1 is CL), and bits 8..15 of general register"
            + " n-4 for n = 4..7; writing it leaves the other bits.");
        for (int to = 0; to < 8; to++) {
            for (int from = 0; from < 8; from++) {
                Pc32 x = with("8A" + imm(0xC0 | 8 * to | from, 1));
                int[] due = new int[8];
                for (int i = 0; i < 8; i++) {
                    due[i] = 0x81A1C1E1 + 0x01020304 * i;
                    x.setReg(i, due[i]);
                }
                int value = (due[from & 3] >>> (from < 4 ? 0 : 8)) & 255;
                int shift = to < 4 ? 0 : 8;
                due[to & 3] = due[to & 3] & ~(255 << shift) | value << shift;
                x.run(1);
                for (int i = 0; i < 8; i++) Expect.same("byte register " + to + " from " + from + ": reg " + i, x.reg(i), due[i]);
            }
        }
    }

    private static void controlRegistersAreMasked() {
        says("CR0 (bit 31 is PG, paging on; its other bits are always 0); CR2; CR3 (always a value masked by 0x3F0); CR4 (always masked by"
            + " 0x3FE); CR5 (any value); CPL, 0 or 3.");
        int[] masks = {LEAST, -1, 0x3F0, 0x3FE, -1};
        int[] numbers = {0, 2, 3, 4, 5};
        for (int i = 0; i < 5; i++) {
            for (int bit = -1; bit < 32; bit++) {
                int value = bit < 0 ? -1 : 1 << bit;
                Pc32 x = new Pc32(16);
                x.setReg(CR0 + i, value);
                has("set by the call", x, CR0 + i, value & masks[i]);
                x = ran("0F 22" + imm(0xC3 | 8 * numbers[i], 1), EBX, value);
                has("set by 0F 22", x, CR0 + i, value & masks[i], EBX, value);
                for (int j = 0; j < 5; j++) if (j != i) has("the others", x, CR0 + j, 0);
            }
        }
    }

    private static void flagsWord() {
        says("FLAGS WORD: bit 0 CF, bit 1 always 1, bit 2 PF, bit 6 ZF, bit 7 SF, bit 9 IF, bit 10 DF, bit 11 OF, all other bits 0.");
        for (int bit = -2; bit < 32; bit++) {
            int value = bit == -2 ? 0 : bit == -1 ? -1 : 1 << bit;
            Pc32 x = new Pc32(16);
            x.setReg(FLAGS, ~value);
            x.setReg(FLAGS, value);
            has("flags word of " + value, x, FLAGS, value & 0xEC5 | 2);
            x = flat(0, "CF", FLAGS, ~value);
            x.poke(FLAT_STACK + 4, value, 4);
            x.run(1);
            has("flags word of " + value + " by IRET", x, FLAGS, value & 0xEC5 | 2);
            x = flat(0, "CD 20", FLAGS, value);
            x.run(1);
            Expect.same("flags word that is pushed", x.peek(FLAT_STACK - 8, 4), value & 0xEC5 | 2);
        }
    }

    // ---- translation ----

    private static void pagingOff() {
        says("PG off: the physical address is a.");
        Pc32 x = new Pc32(16);
        for (int kind = 0; kind < 4; kind++) {
            for (int a : new int[] {0, 1, 63, 64, 511, 1023}) Expect.same("translate", x.translate(a, kind), a);
            for (int a : new int[] {1024, 4095, 4096, GREATEST, LEAST, -1}) Expect.same("translate", x.translate(a, kind), -2);
        }
        // MOV [EBX],EAX at CPL 3, with CR3 at half words that would forbid it, and take marks
        x = flat(3, "89 03", CR3, 0, CR0, GREATEST, EBX, 0x120, EAX, 0x55);
        x.poke(0, 0x0001000100010001L, 8);
        notDelivered("a write at CPL 3", x);
        Expect.same("the byte", x.peek(0x120, 4), 0x55);
        Expect.same("no marks", x.peek(0, 8), 0x0001000100010001L);
    }

    /** Reads and writes at a, at both levels: each must end in fault 14 with this P and CR2 = a, and leave the half word. */
    private static void faults(String what, int a, int p, int at, int halfWord) {
        for (int kind = 0; kind < 4; kind++) {
            int cpl = (kind & 2) == 0 ? 0 : 3;
            Pc32 x = paged(cpl, (kind & 1) == 0 ? "8A 0E" : "88 0E", ESI, a, CR2, 5);
            x.poke(at, halfWord, 2);
            Expect.same(what + ": translate", x.translate(a, kind), -1);
            delivered(what, x, 14, p + 2 * (kind & 1) + (cpl == 3 ? 4 : 0));
            has(what, x, CR2, a, ESI, a, ECX, 0);
            Expect.same(what + ": half word", x.peek(at, 2), halfWord);
        }
    }

    private static void inThisOrder() {
        says("PG on, in this order:");
        // At CPL 3, for writing, with everything wrong from one of the numbers on: the first one that is wrong says what P is.
        int[][] rows = {{0x1200, 0, 0, 0}, {0x1200, 0x221, 0x181, 0}, {0x200, 0x220, 0x180, 0}, {0x200, 0x220, 0x187, 0}, {0x200, 0x221, 0x180, 0},
            {0x200, 0x221, 0x186, 0}, {0x200, 0x227, 0x180, 0}, {0x200, 0x221, 0x181, 1}, {0x200, 0x225, 0x187, 1}, {0x200, 0x227, 0x183, 1}};
        for (int[] row : rows) {
            Pc32 x = paged(3, "88 0E", ESI, row[0]);
            x.poke(DIRECTORY + 2, row[1], 2);
            x.poke(0x220, row[2], 2);
            delivered("D " + row[1] + " T " + row[2], x, 14, 6 + row[3]);
            Expect.same("D", x.peek(DIRECTORY + 2, 2), row[1]);
            Expect.same("T", x.peek(0x220, 2), row[2]);
        }
    }

    private static void highAddresses() {
        says("(1) a >>> 12 is not 0: page fault with P = 0.");
        // By their low 12 bits these addresses would lie on data page 1.
        for (int a : new int[] {0x1040, 0x2040, 0x10040, 0x7FFFF040, 0x80000040, 0xFFFFF07F}) faults("high", a, 0, TABLE + 2, 0xC7);
        Pc32 x = paged(0, "8A 0E", ESI, 0xFFF);
        x.poke(DIRECTORY + 14, 0x227, 2);
        x.poke(0x220 + 14, 0x187, 2);
        x.poke(0x180 + 63, 0x9A, 1);
        notDelivered("the last address", x);
        has("the last address", x, ECX, 0x9A);
    }

    private static void everyDirectoryEntry() {
        says("(2) D is the half word at physical CR3 + 2 * ((a >>> 9) & 7). Bit 0 of D clear: page fault with P = 0.");
        for (int cr3 : new int[] {0, 0x10, 0x200, 0x3F0}) {
            for (int i = 0; i < 8; i++) {
                Pc32 x = new Pc32(16);
                x.poke(cr3 + 2 * i, 0x107, 2);
                for (int j = 0; j < 8; j++) x.poke(0x100 + 2 * j, 64 * j + 7, 2);
                set(x, CR0, -1, CR3, cr3);
                for (int j = 0; j < 8; j++) {
                    Expect.same("first of its 512 bytes", x.translate(512 * j, 3), i == j ? 0 : -1);
                    Expect.same("last of its 512 bytes", x.translate(512 * j + 511, 3), i == j ? 511 : -1);
                }
            }
        }
        faults("D is 0", 0x205, 0, DIRECTORY + 2, 0);
        faults("bit 0 of D alone is clear", 0xFC0, 0, DIRECTORY + 14, 0xFFFE);
    }

    private static void everyTableEntry() {
        says("(3) T is the half word at physical (D & 0x3F0) + 2 * ((a >>> 6) & 7). Bit 0 of T clear: page fault with P = 0.");
        for (int table : new int[] {0, 0x10, 0x20, 0x40, 0x80, 0x100, 0x200, 0x3F0}) {
            for (int j = 0; j < 8; j++) {
                Pc32 x = new Pc32(16);
                x.poke(0x352, 0xFC07 | table, 2);
                x.poke(table + 2 * j, 0x187, 2);
                set(x, CR0, -1, CR3, 0x350);
                for (int k = 0; k < 8; k++) {
                    Expect.same("first of its page", x.translate(512 + 64 * k, 3), j == k ? 0x180 : -1);
                    Expect.same("last of its page", x.translate(512 + 64 * k + 63, 3), j == k ? 0x1BF : -1);
                }
            }
        }
        faults("T is 0", FREE, 0, TABLE + 8, 0);
        faults("bit 0 of T alone is clear", FREE + 63, 0, TABLE + 8, 0xFFFE);
        // T absent comes before what D does not allow: P is 0.
        Pc32 x = paged(3, "88 06", ESI, 0x200);
        x.poke(DIRECTORY + 2, 0x221, 2);
        delivered("absent before forbidden", x, 14, 6);
    }

    private static void halfWordsPastTheEnd() {
        says("(In (2), (3) and for the interrupt table, a half word at an address of S or more counts as 0.)");
        for (int frames = 4; frames < 16; frames++) {
            int size = 64 * frames;
            Pc32 x = new Pc32(frames);
            x.poke(size - 2, 0x07, 2);
            x.poke(0, 0x47, 2);
            set(x, CR0, -1, CR3, size - 16);
            Expect.same("D is the last half word", x.translate(7 * 512 + 1, 3), 0x41);
            x.setReg(CR3, size);
            for (int a = 0; a < 4096; a += 64) Expect.same("D is past the end", x.translate(a, 0), -1);
            x = new Pc32(frames);
            x.poke(0x40, (size - 16) | 7, 2);
            x.poke(size - 2, 0x87, 2);
            set(x, CR0, -1, CR3, 0x40);
            Expect.same("T is the last half word", x.translate(7 * 64 + 1, 3), 0x81);
            x.poke(0x40, size | 7, 2);
            for (int a = 0; a < 512; a += 64) Expect.same("T is past the end", x.translate(a, 0), -1);
        }
    }

    private static void halfWordsPastTheEndInAStep() {
        // The fault has P = 0: a half word of 255s would be present.
        Pc32 x = small(4, "8A 06", EIP, 64, CR3, 0x80, CR0, -1, ESI, 512 + 3, CR4, 0xA0, ESP, 64 + 0x3F);
        x.poke(0x80, 0x01070097, 4);
        x.poke(0x92, 0x47, 2);
        x.poke(0xA0 + 28, 0x111, 2);
        x.run(1);
        has("T past the end in a step", x, VECTOR, 14, ERROR, 0, CR2, 512 + 3, EIP, 0x111);
        // CR4 + 2v is S-2, then S
        x = small(4, "CD 7F", CR4, 0);
        x.poke(0xFE, 0x123, 2);
        x.run(1);
        has("the last half word as entry", x, VECTOR, 0x7F, EIP, 0x123);
        x = small(4, "CD 80", CR4, 0);
        x.poke(26, 0x145, 2);
        x.run(1);
        has("an entry past the end", x, VECTOR, 13, ERROR, 8 * 0x80 + 2, EIP, 0x145);
        // INT at CPL 3: bit 15 of a half word past the end is clear
        x = small(4, "CD 80", CR4, 0, CPL, 3, CR5, 0xD0);
        x.poke(26, 0x145, 2);
        x.run(1);
        has("INT by an entry past the end", x, VECTOR, 13, ERROR, 8 * 0x80 + 2, EIP, 0x145);
        Expect.same("return address", x.peek(0xD0 - 12, 4), 0x40);
    }

    /** Every pair of rights of D and T, tried by translate and in a step; P is 1 where it faults. */
    private static void rights(int level, boolean writing, int bit) {
        int kind = (writing ? 1 : 0) + (level == 3 ? 2 : 0);
        for (int d = 1; d < 8; d += 2) {
            for (int t = 1; t < 8; t += 2) {
                boolean user = level == 0 || (d & t & 4) != 0;
                boolean write = !writing || (d & t & 2) != 0;
                if (bit == 4 && !write) continue;
                if (bit == 2 && !user) continue;
                String what = "level " + level + " writing " + writing + " D " + d + " T " + t;
                Pc32 x = paged(level, writing ? "88 0E" : "8A 0E", ESI, 0x205, CR2, 9);
                x.poke(DIRECTORY + 2, 0x220 | d, 2);
                x.poke(0x220, 0x180 | t, 2);
                Expect.same(what, x.translate(0x205, kind), user && write ? 0x185 : -1);
                if (user && write) {
                    notDelivered(what, x);
                    Expect.same(what + ": D", x.peek(DIRECTORY + 2, 2), 0x228 | d);
                    Expect.same(what + ": T", x.peek(0x220, 2), 0x180 | t | (writing ? 24 : 8));
                } else {
                    delivered(what, x, 14, 1 + (writing ? 2 : 0) + (level == 3 ? 4 : 0));
                    has(what, x, CR2, 0x205);
                    Expect.same(what + ": D", x.peek(DIRECTORY + 2, 2), 0x220 | d);
                    Expect.same(what + ": T", x.peek(0x220, 2), 0x180 | t);
                }
            }
        }
    }

    private static void userBit() {
        says("(4) L is 3 and bit 2 of D or of T is clear: page fault with P = 1.");
        rights(3, false, 4);
        rights(3, true, 4);
        rights(0, false, 4);
    }

    private static void writeBit() {
        says("(5) for writing and bit 1 of D or of T is clear (at either level): page fault with P = 1.");
        rights(0, true, 2);
        rights(3, true, 2);
        rights(3, false, 2);
    }

    private static void marks() {
        says("(6) Else 8 is ORed into the half word of D in memory, then 8 (for reading) or 24 (for writing) is ORed into the half word of T in"
            + " memory (the two may be the same half word), and the physical address is (T & 0x3C0) | (a & 63), T as it was read in (3).");
        for (int frame = 0; frame < 1024; frame += 64) {
            if (frame == 0x80 || frame == 0x200) continue;
            for (int other : new int[] {0, 0x20, 0xFC00, 0xFC38, 8, 16, 24}) {
                for (int offset : new int[] {0, 1, 63}) {
                    Pc32 x = paged(3, "88 0E 8A 2E", ESI, 0x200 + offset, ECX, 0xA5);
                    x.poke(DIRECTORY + 2, 0xFC00 | 0x227, 2);
                    x.poke(0x220, frame | 7 | other, 2);
                    Expect.same("address", x.translate(0x200 + offset, 3), frame + offset);
                    x.run(1);
                    Expect.same("the byte", x.peek(frame + offset, 1), 0xA5);
                    Expect.same("D", x.peek(DIRECTORY + 2, 2), 0xFC00 | 0x22F);
                    Expect.same("T", x.peek(0x220, 2), frame | 7 | other | 24);
                    x.poke(0x220, frame | 7 | other, 2);
                    x.run(1);
                    has("the byte read", x, ECX, 0xA5A5);
                    Expect.same("T after reading", x.peek(0x220, 2), frame | 7 | other | 8);
                }
            }
        }
    }

    private static void oneHalfWordAsDAndT() {
        // D at 200h leads to the table 200h: for page 0 the half word is both. The 16 of a write lies in the table's mask, so
        // the next translation finds the table at 210h.
        Pc32 x = new Pc32(16);
        x.poke(0x200, 0x00870207, 4);
        x.poke(0x212, 0x87, 2);
        Expect.load(x, 0x80, "8A 0D 3F 00 00 00 88 0D 3F 00 00 00 90");
        x.poke(0x23F, 0x5C, 1);
        set(x, CR0, -1, CR3, 0x200, EIP, 64);
        x.run(1);
        has("read", x, ECX, 0x5C, DELIVERIES, 0);
        Expect.same("marks of a read", x.peek(0x200, 2), 0x20F);
        x.setReg(ECX, 0x77);
        x.run(1);
        has("write", x, DELIVERIES, 0);
        Expect.same("marks of a write", x.peek(0x200, 2), 0x21F);
        Expect.same("written by T as it was read", x.peek(0x23F, 1), 0x77);
        Expect.same("the other T until now", x.peek(0x212, 2), 0x87);
        Expect.same("translate", x.translate(64, 0), 0x80);
        x.run(1);
        has("the next translation", x, DELIVERIES, 0, EIP, 64 + 13);
        Expect.same("counts the change", x.peek(0x212, 2), 0x8F);
    }

    private static void errorCodes() {
        says("A page fault is vector 14; it sets CR2 = a at once; its error code is P + 2 if for writing + 4 if L is 3.");
        for (int error = 0; error < 8; error++) {
            int cpl = (error & 4) == 0 ? 0 : 3;
            boolean writing = (error & 2) != 0;
            boolean present = (error & 1) != 0;
            // At level 0 a read of a page that is there cannot fault.
            if (error == 1) continue;
            Pc32 x = paged(cpl, writing ? "89 06" : "8B 06", ESI, FREE + 7, CR2, -1, EAX, 3);
            if (present) page(x, 4, 0x181);
            delivered("error " + error, x, 14, error);
            has("error " + error, x, CR2, FREE + 7);
            pushed("error " + error, x, STACK_END, 2 | (cpl << 12), CODE, error);
        }
        Pc32 x = paged(0, "8B 06", ESI, 0x89ABCDEF);
        delivered("CR2 is the whole address", x, 14, 0);
        has("CR2 is the whole address", x, CR2, 0x89ABCDEF);
        x = paged(0, "8B 06", ESI, DATA, CR2, 1234);
        notDelivered("no fault", x);
        has("CR2 stays without a fault", x, CR2, 1234);
    }

    private static void noMarksByAFault() {
        says("Nothing is ORed into memory by a translation that faults.");
        int[][] directoryAndTable = {{0x226, 0x187}, {0x227, 0x186}, {0x223, 0x187}, {0x227, 0x183}, {0x225, 0x187}, {0x227, 0x185}, {0, 0x187}, {0x227, 0}};
        for (int[] row : directoryAndTable) {
            Pc32 x = paged(3, "88 06", ESI, 0x200);
            x.poke(DIRECTORY + 2, row[0], 2);
            x.poke(0x220, row[1], 2);
            Expect.same("run", x.run(1), 1);
            has("fault", x, VECTOR, 14);
            Expect.same("D", x.peek(DIRECTORY + 2, 2), row[0]);
            Expect.same("T", x.peek(0x220, 2), row[1]);
        }
    }

    // ---- accesses ----

    private static void accessWraps() {
        says("AN ACCESS of 4 bytes at a uses a, a+1, a+2, a+3 (mod 2^32)");
        for (int back = 1; back < 4; back++) {
            Pc32 x = flat(0, "89 06 8B 1E", ESI, -back, EAX, 0x44332211);
            x.poke(0, 0xEEEEEEEEL, 4);
            Expect.same("run", x.run(2), 2);
            for (int i = 0; i < 4; i++) {
                Expect.same("byte " + i, x.peek(i, 1), i + back < 4 ? 0x11 * (i + back + 1) : 0xEE);
            }
            int lost = (1 << (8 * back)) - 1;
            has("read back", x, EBX, 0x44332211 & ~lost | lost, DELIVERIES, 0);
        }
    }

    private static void fourTranslationsInOrder() {
        says("all four are translated first, in this order, and the first that faults ends it;");
        for (int here = 1; here < 4; here++) {
            for (int write = 0; write < 2; write++) {
                String hex = write == 1 ? "89 06" : "8B 06";
                Pc32 x = paged(3, hex, ESI, NEXT_DATA - here, EAX, 0x44332211);
                page(x, 2, 0x106);
                delivered("second page absent", x, 14, 4 + 2 * write);
                has("second page absent", x, CR2, NEXT_DATA, EAX, 0x44332211);
                Expect.same("the first page is marked", page(x, 1), write == 1 ? 0xDF : 0xCF);
                Expect.same("the second is not", page(x, 2), 0x106);
                Expect.same("nothing is written", x.peek(0xFC, 4), 0);
                x = paged(3, hex, ESI, NEXT_DATA - here);
                page(x, 1, 0xC6);
                delivered("first page absent", x, 14, 4 + 2 * write);
                has("first page absent", x, CR2, NEXT_DATA - here);
                Expect.same("the second is not marked", page(x, 2), 0x107);
                x = paged(3, hex, ESI, NEXT_DATA - here);
                page(x, 1, 0xC6);
                page(x, 2, 0x106);
                delivered("both absent", x, 14, 4 + 2 * write);
                has("both absent", x, CR2, NEXT_DATA - here);
            }
        }
        Pc32 x = paged(0, "8B 06", ESI, NEXT_DATA - 4);
        page(x, 2, 0);
        notDelivered("a word that ends with the page", x);
    }

    private static void thenReadOrWritten() {
        says("then the bytes are read, or written, at the four physical addresses.");
        // The two pages lie in one frame, so the word comes round in it.
        Pc32 x = paged(0, "89 06 8B 1E", ESI, NEXT_DATA - 2, EAX, 0x44332211);
        page(x, 2, 0xC7);
        x.run(2);
        Expect.same("end of the frame", x.peek(0xFE, 2), 0x2211);
        Expect.same("begin of the frame", x.peek(0xC0, 2), 0x4433);
        has("read", x, EBX, 0x44332211);
        Expect.same("the frame after it", x.peek(0x100, 2), 0);
        // The half word T of page 7 stands at the end of its frame: the word read holds the mark that its last bytes made.
        x = tableAtFrameEnd("8B 06");
        x.poke(0x100, 0x6655, 2);
        notDelivered("read", x);
        has("read after all translations", x, EAX, 0x6655010F);
    }

    /** The page table stands at 230h..23Fh, the end of its frame; page 6 is that frame, page 7 the frame 100h. */
    private static Pc32 tableAtFrameEnd(String hex, int... registersAndValues) {
        Pc32 x = paged(0, hex, ESI, 6 * 64 + 62);
        set(x, registersAndValues);
        x.poke(DIRECTORY, 0x237, 2);
        x.poke(0x230, 0x87, 2);
        x.poke(0x236, 0x147, 2);
        x.poke(0x23C, 0x01070207, 4);
        return x;
    }

    private static void tablesOverwritten() {
        says("(A D or T may thereby be overwritten; that counts from the next translation on.)");
        Pc32 x = tableAtFrameEnd("89 06 8A 0E", EAX, 0x66550000);
        notDelivered("T of the word's last bytes is overwritten by its first", x);
        Expect.same("T", x.peek(0x23E, 2), 0);
        Expect.same("the last bytes", x.peek(0x100, 2), 0x6655);
        Expect.same("the next translation", x.translate(7 * 64, 0), -1);
        x = tableAtFrameEnd("89 06", EAX, 0x665501C7);
        notDelivered("T leads elsewhere", x);
        Expect.same("the last bytes", x.peek(0x100, 2), 0x6655);
        Expect.same("not elsewhere", x.peek(0x1C0, 2), 0);
        Expect.same("the next translation", x.translate(7 * 64, 0), 0x1C0);
        // D itself: page 6 of the frame 200h, offset 0
        x = tableAtFrameEnd("89 06 90", ESI, 6 * 64, EAX, 0);
        notDelivered("D is overwritten", x);
        Expect.same("D", x.peek(DIRECTORY, 4), 0);
        shutdown("no page is left, not even for the stack", x, STACK_END - 4);
        has("no page is left", x, EIP, CODE + 2);
        // The first word of a delivery overwrites T of its stack (page 4): the next word finds it absent.
        x = paged(0, "CD 20", ESP, FREE + 0x1C);
        page(x, 4, 0x207);
        shutdown("a delivery that overwrites its own T", x, FREE + 0x18);
        Expect.same("the first word", x.peek(TABLE + 8, 4), FREE + 0x1C);
    }

    private static void levelOfAnInstruction() {
        says("All translations of an instruction are at level CPL.");
        String[] forms = {"8B 06", "89 06", "01 06", "FF 36", "FF 26", "FF 16", "A4", "0F B6 06", "0F 90 06", "F7 3E", "C7 06 01 00 00 00"};
        for (String hex : forms) {
            for (int cpl = 0; cpl <= 3; cpl += 3) {
                Pc32 x = paged(cpl, hex, ESI, DATA, EDI, NEXT_DATA, EAX, 1);
                x.poke(0xC0, 1, 4);
                page(x, 1, 0xC3);
                Expect.same(hex, x.run(1), 1);
                has(hex, x, DELIVERIES, cpl == 0 ? 0 : 1);
                if (cpl == 3) Expect.same(hex + ": P and level", x.reg(ERROR) & 5, 5);
            }
        }
        String[] stack = {"50", "58", "68 01 00 00 00", "6A 01", "C3", "E8 00 00 00 00", "FF D0", "FF F0"};
        for (String hex : stack) {
            for (int cpl = 0; cpl <= 3; cpl += 3) {
                Pc32 x = paged(cpl, hex, ESP, DATA + 16);
                page(x, 1, 0xC3);
                Expect.same(hex, x.run(1), 1);
                has(hex, x, DELIVERIES, cpl == 0 ? 0 : 1);
                if (cpl == 3) Expect.same(hex + ": P and level", x.reg(ERROR) & 5, 5);
            }
        }
        Pc32 x = paged(3, "AA", EDI, DATA);
        page(x, 1, 0xC3);
        delivered("STOSB", x, 14, 7);
        x = paged(3, "90");
        page(x, 0, 0x83);
        delivered("fetch", x, 14, 5);
        x = paged(0, "90");
        page(x, 0, 0x83);
        notDelivered("fetch at CPL 0", x);
    }

    // ---- a step ----

    private static void pendingInterrupt() {
        says("An interrupt is pending and IF is 1: status becomes RUNNING, the interrupt is no longer pending, and its vector is delivered,"
            + " without error code, with return address EIP. That is the step.");
        for (int vector = 32; vector <= 47; vector++) {
            Pc32 x = flat(3, "40", FLAGS, ALL_FLAGS);
            x.irq(vector);
            delivered("irq " + vector, x, vector, -1);
            has("no instruction is done", x, EAX, 0, PENDING, -1, ESP, FLAT_KERNEL_STACK - 12, FLAGS, ALL_FLAGS & ~IF | 2);
            pushedBelow("irq", x, FLAT_KERNEL_STACK, FLAT_STACK, ALL_FLAGS | 0x3002, FLAT_CODE, 0);
            Expect.yes("another one", x.irq(vector));
        }
        Pc32 x = flat(0, "FB F4");
        x.run(2);
        x.irq(40);
        Expect.same("HALTED", x.status(), Pc32.HALTED);
        delivered("from HALTED", x, 40, -1);
        Expect.same("RUNNING", x.status(), Pc32.RUNNING);
        pushedBelow("from HALTED", x, FLAT_STACK, FLAT_STACK, 2 | IF, FLAT_CODE + 2, 0);
        x = flat(0, "40", FLAGS, ALL_FLAGS & ~IF);
        x.irq(40);
        notDelivered("IF is 0", x);
        has("IF is 0", x, EAX, 1, PENDING, 40);
        x = flat(0, "40", FLAGS, IF);
        notDelivered("none is pending", x);
        has("none is pending", x, EAX, 1);
        // The EIP of an interrupt is not looked at before the delivery.
        x = paged(0, "", EIP, 0x87654321, FLAGS, IF, CR2, 3);
        x.irq(33);
        delivered("no fetch", x, 33, -1);
        has("no fetch", x, CR2, 3);
        pushed("no fetch", x, STACK_END, 2 | IF, 0x87654321);
    }

    private static void haltedWithoutStep() {
        says("Else, status HALTED: no step is possible.");
        Pc32 x = flat(0, "F4 40");
        Expect.same("HLT", x.run(1), 1);
        for (int limit : new int[] {1, 200, 0, -1}) Expect.same("HALTED", x.run(limit), 0);
        x.irq(32);
        Expect.same("IF is 0", x.run(200), 0);
        has("IF is 0", x, PENDING, 32, EIP, FLAT_CODE + 1, EAX, 0);
        x = flat(0, "F4 40", FLAGS, IF);
        x.run(1);
        Expect.same("none is pending", x.run(200), 0);
        Expect.same("HALTED", x.status(), Pc32.HALTED);
        x.setReg(EIP, FLAT_CODE + 1);
        Expect.same("a new EIP is no way out", x.run(1), 0);
    }

    private static void noStepInShutdown() {
        says("A STEP, while status() is not SHUTDOWN:");
        Pc32 x = with("06");
        x.irq(32);
        Expect.same("to SHUTDOWN", x.run(200), 1);
        x.setReg(FLAGS, IF);
        x.setReg(CR4, 0x200);
        for (int v = 0; v < 48; v++) x.poke(0x200 + 2 * v, 0x100, 2);
        x.poke(0, 0x40, 1);
        for (int limit : new int[] {1, 200, 0, -1}) Expect.same("SHUTDOWN", x.run(limit), 0);
        has("nothing happens", x, PENDING, 32, EIP, 0, EAX, 0, DELIVERIES, 0);
        Expect.same("status", x.status(), Pc32.SHUTDOWN);
    }

    private static void oneInstruction() {
        says("Else one instruction is fetched at EIP, decoded, executed.");
        Pc32 x = flat(0, "40 40 40");
        for (int i = 1; i <= 3; i++) {
            Expect.same("run(1)", x.run(1), 1);
            has("one instruction", x, EAX, i, EIP, FLAT_CODE + i);
        }
    }

    // ---- fetch ----

    private static void fetchWraps() {
        says("FETCH. The bytes of an instruction lie at EIP, EIP+1, .. (mod 2^32): opcode (or F3 and opcode, or 0F and second opcode byte),"
            + " then, if its form has them, ModRM, SIB, displacement, immediate.");
        // The byte at -1 is 255. FF 04 25 disp32: INC [80h]
        Pc32 x = with("04 25 80 00 00 00", EIP, -1);
        x.run(1);
        Expect.same("the byte at -1 is the opcode", x.peek(0x80, 4), 1);
        has("the byte at -1 is the opcode", x, EIP, 6, DELIVERIES, 0);
        x = flat(0, "", EIP, -2);
        delivered("FF FF is no form", x, 6, -1);
        pushedBelow("FF FF is no form", x, FLAT_STACK, FLAT_STACK, 2, -2);
        // 81 /0 with SIB, displacement and immediate, each of 4 bytes
        x = with("81 84 B3 00 01 00 00 44 33 22 11", EBX, 0x40, ESI, 8);
        x.run(1);
        Expect.same("all parts", x.peek(0x160, 4), 0x11223344);
        has("all parts", x, EIP, 11);
        has("0F and second byte", ran("0F B6 D9", ECX, 0x1FE), EBX, 0xFE, EIP, 3);
        has("F3 and opcode", ran("F3 AA", ECX, 1, EDI, 0x80), ECX, 0, EIP, 2);
    }

    private static void fetchJustBefore() {
        says("Each byte is translated for reading just before it is read; bytes are read one by one, in this order, only as far as the form"
            + " needs.");
        // The opcode is the low byte of its own page's T: 47h (INC EDI) before the mark, 4Fh (DEC EDI) with it.
        Pc32 x = paged(0, "", EIP, 64 + 0x12);
        x.poke(DIRECTORY, 0x257, 2);
        x.poke(0x250, 0x02470087, 4);
        x.poke(0x256, 0x147, 2);
        notDelivered("the mark comes before the read", x);
        has("the mark comes before the read", x, EDI, -1);
        // MOV EDX, id whose first two bytes are T of the page on which its last two lie: no mark on them yet.
        x = tableAtFrameEnd("", EIP, 6 * 64 + 0x3D);
        x.poke(0x23C, 0x0107BA07, 4);
        x.poke(0x100, 0x3322, 2);
        notDelivered("the read comes before the next byte's mark", x);
        has("the read comes before the next byte's mark", x, EDX, 0x33220107, EIP, 7 * 64 + 2);
        Expect.same("the mark came after", x.peek(0x23E, 2), 0x10F);
        // Only as far as needed: a jump that is not taken reads its displacement, HLT reads nothing after it.
        x = paged(0, "", EIP, 63);
        x.poke(0xBF, 0xF4, 1);
        page(x, 1, 0);
        notDelivered("HLT at the end", x);
        x = paged(0, "", EIP, 63);
        x.poke(0xBF, 0x75, 1);
        x.setReg(FLAGS, ZF);
        page(x, 1, 0);
        delivered("a jump not taken", x, 14, 0);
        has("a jump not taken", x, CR2, 64);
        x = paged(0, "", EIP, 62);
        x.poke(0xBE, 0xA4F3, 2);
        page(x, 1, 0);
        notDelivered("F3 A4 with ECX 0", x);
        Expect.same("reads leave no mark of writing", page(x, 0), 0x8F);
    }

    private static void noForm(String hex) {
        Pc32 x = paged(3, "", EIP, 64 - lengthOf(hex), FLAGS, IF, CR2, 3);
        Expect.load(x, 0xC0 - lengthOf(hex), hex);
        page(x, 1, 0);
        delivered(hex + " is no form", x, 6, -1);
        has(hex + ": nothing more is read", x, CR2, 3, ESP, STACK_END - 12);
        pushed(hex, x, STACK_END, 0x3202, 64 - lengthOf(hex));
        if (lengthOf(hex) == 1) return;
        x = paged(3, "", EIP, 65 - lengthOf(hex));
        Expect.load(x, 0xC0 - lengthOf(hex) + 1, hex.replace(" ", "").substring(0, 2 * lengthOf(hex) - 2));
        page(x, 1, 0);
        delivered(hex + ": not before the byte has been read", x, 14, 4);
    }

    private static void bytesThatAreNoForm() {
        says("A byte that cannot begin or go on with any form listed below (an unknown opcode byte, an unknown byte after 0F or F3, a ModRM"
            + " byte that the form does not allow) gives, when it has been read, fault 6 without error code, and nothing more is read.");
        String[] all = {"06", "07", "0E", "26", "2F", "36", "3E", "3F", "60", "62", "67", "69", "6B", "6C", "6F", "82", "86", "87", "8C", "8E",
            "8F", "91", "97", "98", "9A", "9C", "A0", "A5", "A8", "AB", "AF", "C0", "C2", "C4", "C8", "CA", "CE", "D0", "D2", "D4", "DF", "E0",
            "E4", "E7", "EA", "EC", "F0", "F1", "F2", "F6", "FE", "0F 00", "0F 0F", "0F 1F", "0F 21", "0F 23", "0F 7F", "0F A0", "0F AE", "0F B0",
            "0F B7", "0F BE", "0F F3", "0F FF", "F3 00", "F3 0F", "F3 90", "F3 A5", "F3 AB", "F3 C3", "F3 F3", "F3 FF", "8D C0", "8D FF", "C6 08",
            "C6 F8", "C7 C8", "C7 38", "C1 00", "C1 08", "C1 D0", "C1 D8", "C1 30", "D1 C0", "D1 F0", "D3 18", "D3 F0", "F7 00", "F7 C8", "F7 E8",
            "F7 30", "FF 18", "FF D8", "FF 28", "FF E8", "FF 38", "FF F8", "0F 20 00", "0F 20 BF", "0F 20 C8", "0F 20 F0", "0F 20 FF", "0F 22 80",
            "0F 22 C8", "0F 22 F0", "0F 22 F8"};
        for (String hex : all) noForm(hex);
    }

    private static void privilegedForms() {
        says("Next, after the whole instruction is read: a form marked P at CPL 3 gives fault 13 with error code 0. Only then it is executed.");
        String[] forms = {"FA", "FB", "E6 05", "CF", "F4", "0F 20 C0", "0F 20 EF", "0F 22 C0", "0F 22 D8"};
        for (String hex : forms) {
            // ESP leads nowhere: the IRET's reads are not made.
            Pc32 x = paged(3, "", EIP, 64 - lengthOf(hex), ESP, 0x12345678, FLAGS, IF, CR2, 3);
            Expect.load(x, 0xC0 - lengthOf(hex), hex);
            page(x, 1, 0);
            delivered(hex + " at CPL 3", x, 13, 0);
            has(hex, x, CR0, LEAST, CR2, 3, CR3, DIRECTORY, CR4, 0, CR5, STACK_END, EAX, 0, EDI, 0, ESP, STACK_END - 16, FLAGS, 2);
            pushed(hex, x, 0x12345678, 0x3202, 64 - lengthOf(hex), 0);
            Expect.same(hex + ": RUNNING", x.status(), Pc32.RUNNING);
            Expect.same(hex + ": no port write", x.portWrites(), 0);
            for (int kept = 1; kept < lengthOf(hex); kept++) {
                x = paged(3, "", EIP, 64 - kept);
                Expect.load(x, 0xC0 - kept, hex.replace(" ", "").substring(0, 2 * kept));
                page(x, 1, 0);
                delivered(hex + " not whole", x, 14, 4);
            }
            x = paged(0, hex, ESP, STACK_END - 12, EAX, LEAST);
            notDelivered(hex + " at CPL 0", x);
        }
        String[] others = {"F5", "F8", "F9", "FC", "FD", "90", "99"};
        for (String hex : others) notDelivered(hex + " at CPL 3", paged(3, hex));
        delivered("a ModRM that is not allowed comes first", paged(3, "0F 22 C8"), 6, -1);
    }

    // ---- a fault ----

    private static void faultsArePrecise() {
        says("A FAULT of an instruction (fetch included) leaves registers, flags, EIP, CPL as at the start of the step (CR2 apart); memory keeps"
            + " what translations ORed into it; then the fault's vector is delivered with return address EIP.");
        // Each reads or maps page 1 (ESI) and then faults on page 4.
        String[] forms = {"FF 36", "FF 16", "A4", "F3 A4"};
        for (String hex : forms) {
            for (int cpl = 0; cpl <= 3; cpl += 3) {
                Pc32 x = paged(cpl, hex, ESI, DATA, EDI, FREE, ESP, FREE + 4, ECX, 5, FLAGS, ALL_FLAGS, EBX, 77, EBP, 88, EDX, 99);
                if (cpl == 0) page(x, 4, 0x185);
                x.poke(0xC0, 0x11, 4);
                int[] before = new int[16];
                for (int i = 0; i < 16; i++) before[i] = x.reg(i);
                if (cpl == 0 && !hex.endsWith("A4")) {
                    // The stack itself is at fault, so that nothing can be delivered.
                    shutdown(hex, x, FREE);
                } else {
                    if (cpl == 0) x.setReg(ESP, STACK_END);
                    before[ESP] = x.reg(ESP);
                    delivered(hex, x, 14, cpl == 0 ? 3 : 6);
                    for (int i = 0; i < 8; i++) if (i != ESP) has(hex, x, i, before[i]);
                    has(hex, x, CR2, FREE, CR3, before[CR3], CR4, before[CR4], CR5, before[CR5], FLAGS, ALL_FLAGS & ~IF | 2);
                    pushed(hex, x, before[ESP], ALL_FLAGS | 2 | (cpl << 12), CODE, cpl == 0 ? 3 : 6);
                }
                Expect.same(hex + ": the mark of what was read", page(x, 1), 0xCF);
                Expect.same(hex + ": the fetch's mark", page(x, 0), 0x8F);
            }
        }
    }

    private static void faultsOfPops() {
        // POP, RET and IRET whose word lies half on page 4, which is absent; ESP stays.
        for (String hex : new String[] {"58", "5C", "C3"}) {
            Pc32 x = paged(3, hex, ESP, STACK_END - 1, EAX, 7);
            delivered(hex, x, 14, 4);
            has(hex, x, EAX, 7, CR2, STACK_END);
            pushed(hex, x, STACK_END - 1, 0x3002, CODE, 4);
            Expect.same(hex + ": the first byte's mark", page(x, 3), 0x15F);
        }
        for (int word = 0; word < 3; word++) {
            Pc32 x = paged(0, "CF", ESP, NEXT_DATA - 4 * word - 2, FLAGS, CF);
            x.poke(0xC0, -1L, 8);
            page(x, 2, 0);
            int esp = x.reg(ESP);
            delivered("IRET, word " + word, x, 14, 0);
            has("IRET, word " + word, x, CR2, NEXT_DATA, FLAGS, 2 | CF, ESP, esp - 16);
        }
        Pc32 x = paged(3, "F7 3E", ESI, DATA, EAX, 5, EDX, 6, FLAGS, OF);
        delivered("IDIV by 0 in memory", x, 0, -1);
        has("IDIV by 0 in memory", x, EAX, 5, EDX, 6, FLAGS, 2 | OF);
        Expect.same("the mark of the divisor", page(x, 1), 0xCF);
    }

    // ---- ModRM ----

    private static final int[] APART = {EAX, 0x10, ECX, 0x200, EDX, 0x3000, EBX, 0x40000, ESP, 0x500000, EBP, 0x6000000, ESI, 0x70000000, EDI, -1};

    private static void address(String bytes, int due) {
        Pc32 x = ran("8D" + bytes, APART);
        has("LEA " + bytes, x, EAX, due, EIP, 1 + lengthOf(bytes));
    }

    private static void registerOperands() {
        says("mod 3: the operand \"r/m\" is (byte) register rm.");
        for (int rm = 0; rm < 8; rm++) {
            Pc32 x = ran("8B" + imm(0xC0 | rm, 1), APART);
            has("register " + rm, x, EAX, APART[2 * rm + 1], EIP, 2);
            x = ran("0F B6" + imm(0xC0 | rm, 1), APART);
            has("byte register " + rm, x, EAX, (APART[2 * (rm & 3) + 1] >>> (rm < 4 ? 0 : 8)) & 255, EIP, 3);
            // The registers, and the address of the LEA before it, lead nowhere; but nothing is accessed by them.
            for (String op : new String[] {"03", "3B", "85", "01", "89", "8B", "0F B6", "0F 90", "0F AF", "F7"}) {
                x = paged(3, "8D 05 21 43 65 87" + op + imm((op.equals("F7") ? 0xD0 : 0xC0) | rm, 1), ECX, -1, EDX, FREE, EBX, -1, EBP, FREE,
                    ESI, -1, EDI, FREE);
                Expect.same(op + " of a register", x.run(2), 2);
                has(op + " of a register", x, CR2, 0, DELIVERIES, 0);
            }
        }
    }

    private static void addressesWrap() {
        says("Else it is in memory at linear address base + index * scale + displacement (mod 2^32):");
        address("47 02", 1);
        address("87 01 00 00 00", 0);
        address("80 F0 FF FF FF", 0);
        address("04 F7", 0x80000000 - 1);
        address("04 FF", -9);
        address("84 F6 00 00 00 90", 0x70000000 + 0x80000000 + 0x90000000);
        Pc32 x = with("8B 44 8F 04", EDI, -0x40, ECX, 0x20);
        x.poke(0x44, 0x1234, 4);
        x.run(1);
        has("a read across the wrap", x, EAX, 0x1234);
    }

    private static void plainBases() {
        says("rm not 4: base is general register rm, no index; but mod 0 with rm 5: no base, displacement of 4 bytes.");
        for (int rm = 0; rm < 8; rm++) {
            if (rm == 4) continue;
            int base = APART[2 * rm + 1];
            if (rm != 5) address(imm(rm, 1), base);
            address(imm(0x40 | rm, 1) + "05", base + 5);
            address(imm(0x80 | rm, 1) + "05 01 00 00", base + 0x105);
        }
        address("05 78 56 34 92", 0x92345678);
        address("05 FF FF FF FF", -1);
        address("05 00 00 00 00", 0);
    }

    private static void scaledIndexes() {
        says("rm 4: a SIB byte follows: scale = 1 << bits 7..6, index = general register in bits 5..3 (4: no index), base = general register in"
            + " bits 2..0; but mod 0 with base 5: no base, displacement of 4 bytes.");
        for (int sib = 0; sib < 256; sib++) {
            int base = APART[2 * (sib & 7) + 1];
            int index = (sib >> 3 & 7) == 4 ? 0 : APART[2 * (sib >> 3 & 7) + 1] << (sib >> 6);
            if ((sib & 7) == 5) address("04" + imm(sib, 1) + "03 02 01 80", index + 0x80010203);
            else address("04" + imm(sib, 1), base + index);
            address("44" + imm(sib, 1) + "FE", base + index - 2);
            address("84" + imm(sib, 1) + "03 02 01 80", base + index + 0x80010203);
        }
    }

    private static void displacements() {
        says("Displacement else: mod 0 none, mod 1 one byte, sign-extended, mod 2 four bytes.");
        address("00", 0x10);
        address("40 00", 0x10);
        address("40 7F", 0x8F);
        address("40 80", 0x10 - 128);
        address("40 FF", 0xF);
        address("80 80 00 00 00", 0x90);
        address("80 FF FF FF 7F", 0x8000000F);
        address("80 00 00 00 80", 0x80000010);
        address("45 80", 0x6000000 - 128);
        address("44 24 80", 0x500000 - 128);
        // The same places are read and written, for a byte and for a word.
        String[] modes = {"06", "46 7F", "46 80", "86 00 01 00 00", "86 00 FF FF FF", "04 1E", "44 5E 10", "84 5E 80 00 00 00", "05 00 02 00 00"};
        int[] places = {0x200, 0x27F, 0x180, 0x300, 0x100, 0x240, 0x290, 0x300, 0x200};
        for (int i = 0; i < modes.length; i++) {
            Pc32 x = with("8B" + modes[i] + "8A" + modes[i], ESI, 0x200, EBX, 0x40);
            x.poke(places[i], 0x87654321L, 4);
            x.run(1);
            has("a word read at " + modes[i], x, EAX, 0x87654321);
            x.poke(places[i], 0x99, 1);
            x.run(1);
            has("a byte read at " + modes[i], x, EAX, 0x87654399);
            x = ran("89" + modes[i], ESI, 0x200, EBX, 0x40, EAX, 0x12345678);
            Expect.same("a word written at " + modes[i], x.peek(places[i], 8), 0x12345678);
            x = ran("88" + modes[i], ESI, 0x200, EBX, 0x40, EAX, 0x12345678);
            Expect.same("a byte written at " + modes[i], x.peek(places[i], 8), 0x78);
            x = with("01" + modes[i], ESI, 0x200, EBX, 0x40, EAX, 1);
            x.poke(places[i], 0xFFFFFFFFL, 4);
            x.run(1);
            Expect.same("a word changed at " + modes[i], x.peek(places[i], 8), 0);
        }
    }

    private static void regFieldThatMustBe() {
        says("\"r\" is the (byte) register reg; \"/n\" means the reg field must be n.");
        for (int reg = 0; reg < 8; reg++) {
            Pc32 x = ran("89" + imm(0x05 | 8 * reg, 1) + "80 00 00 00", APART);
            Expect.same("register " + reg, (int) x.peek(0x80, 4), APART[2 * reg + 1]);
            x = ran("88" + imm(0x05 | 8 * reg, 1) + "80 00 00 00", APART);
            Expect.same("byte register " + reg, x.peek(0x80, 4), (APART[2 * (reg & 3) + 1] >>> (reg < 4 ? 0 : 8)) & 255);
            for (String op : new String[] {"C6", "C7"}) {
                x = flat(0, op + imm(0xC0 | 8 * reg, 1) + "01 00 00 00");
                x.run(1);
                has(op + " /" + reg, x, DELIVERIES, reg == 0 ? 0 : 1, VECTOR, reg == 0 ? -1 : 6);
            }
        }
    }

    private static void kindsOfAccess() {
        says("An r/m in memory that is only read is accessed for reading, one that is only written for writing; one that is read and written is"
            + " translated for writing once, then read, and written at the same physical addresses.");
        String[] readers = {"02 0E", "03 0E", "3A 0E", "38 0E", "39 0E", "3B 0E", "80 3E 01", "81 3E 01 00 00 00", "83 3E 01", "84 0E", "85 0E", "8A 0E",
            "8B 0E", "FF 36", "FF 26", "FF 16", "0F B6 0E", "0F AF 0E", "F7 26", "F7 3E"};
        String[] writers = {"88 0E", "89 0E", "C6 06 01", "C7 06 01 00 00 00", "0F 90 0E", "00 0E", "01 0E", "08 0E", "11 0E", "19 0E", "20 0E", "29 0E",
            "30 0E", "80 06 01", "80 0E 01", "81 36 01 00 00 00", "83 2E 01", "FF 06", "FF 0E", "C1 26 01", "C1 26 00", "D1 2E", "D3 3E", "F7 16", "F7 1E"};
        for (String hex : readers) access(hex, 0);
        for (String hex : writers) access(hex, 2);
    }

    private static void access(String hex, int writing) {
        Pc32 x = paged(0, hex, ESI, DATA, EAX, 1);
        x.poke(0xC0, 1, 4);
        notDelivered(hex, x);
        Expect.same(hex + ": mark", page(x, 1), writing == 0 ? 0xCF : 0xDF);
        x = paged(0, hex, ESI, DATA, EAX, 1);
        x.poke(0xC0, 1, 4);
        page(x, 1, 0xC5);
        if (writing == 0) notDelivered(hex + " on a page not to be written", x);
        else delivered(hex + " on a page not to be written", x, 14, 3);
        Expect.same(hex + ": mark", page(x, 1), writing == 0 ? 0xCD : 0xC5);
        delivered(hex + " on an absent page", paged(0, hex, ESI, FREE), 14, writing);
    }

    private static void readAndWrittenAtOnePlace() {
        // The word's first half is T of the page with its second half. It is read with the marks of writing, and its second
        // half goes back to where it came from, though T now leads elsewhere.
        Pc32 x = tableAtFrameEnd("01 06", EAX, 0x000100C0);
        x.poke(0x100, 0x7000, 2);
        notDelivered("ADD", x);
        Expect.same("first half", x.peek(0x23E, 2), 0x11F + 0xC0);
        Expect.same("second half", x.peek(0x100, 2), 0x7001);
        Expect.same("not where T now leads", x.peek(0x1C0, 2), 0);
    }

    private static void immediates() {
        says("ib: an immediate byte; id: an immediate word; cb: a byte, sign-extended, to be added to the address of the next instruction; cd: a"
            + " word to be added to that address.");
        has("ib", ran("B0 FF"), EAX, 255);
        has("id", ran("B8 01 02 03 FF"), EAX, 0xFF030201);
        int[][] byteAndTarget = {{0, 2}, {0x7F, 0x81}, {0x80, 2 - 128}, {0xFF, 1}, {0xFE, 0}, {0xFD, -1}};
        for (int[] row : byteAndTarget) has("cb " + row[0], ran("EB" + imm(row[0], 1)), EIP, row[1]);
        int[] words = {0, 1, -1, -5, -6, GREATEST, LEAST};
        for (int word : words) {
            has("cd", ran("E9" + imm(word, 4)), EIP, 5 + word);
            has("cd of a condition", ran("0F 84" + imm(word, 4), FLAGS, ZF), EIP, 6 + word);
            has("cd of a call", ran("E8" + imm(word, 4)), EIP, 5 + word);
        }
    }

    private static void signExtended() {
        says("\"sx\": sign-extended to 32 bits.");
        int[][] byteAndWord = {{0, 0}, {1, 1}, {0x7F, 127}, {0x80, -128}, {0xFF, -1}};
        for (int[] row : byteAndWord) {
            has("83", ran("83 C0" + imm(row[0], 1), EAX, 1000), EAX, 1000 + row[1]);
            Expect.same("6A", (int) ran("6A" + imm(row[0], 1)).peek(0x2FC, 4), row[1]);
        }
    }

    public static void main(String[] args) {
        arithmeticWraps();
        iretAcrossTheWrap();
        lowByteFirst();
        sizes();
        pastTheEnd();
        pastTheEndBelowZero();
        byteRegisters();
        controlRegistersAreMasked();
        flagsWord();
        pagingOff();
        inThisOrder();
        highAddresses();
        everyDirectoryEntry();
        everyTableEntry();
        halfWordsPastTheEnd();
        halfWordsPastTheEndInAStep();
        userBit();
        writeBit();
        marks();
        oneHalfWordAsDAndT();
        errorCodes();
        noMarksByAFault();
        accessWraps();
        fourTranslationsInOrder();
        thenReadOrWritten();
        tablesOverwritten();
        levelOfAnInstruction();
        pendingInterrupt();
        haltedWithoutStep();
        noStepInShutdown();
        oneInstruction();
        fetchWraps();
        fetchJustBefore();
        bytesThatAreNoForm();
        privilegedForms();
        faultsArePrecise();
        faultsOfPops();
        registerOperands();
        addressesWrap();
        plainBases();
        scaledIndexes();
        displacements();
        regFieldThatMustBe();
        kindsOfAccess();
        readAndWrittenAtOnePlace();
        immediates();
        signExtended();
        Expect.end("TermsEdgeTest");
    }
}
