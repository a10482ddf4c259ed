// The sentences of 'Terms' under FORMS, each with a test of its own for the boundary cases that it names.
public final class FormsEdgeTest extends Bench {
    private static final int LEAST = Integer.MIN_VALUE, GREATEST = Integer.MAX_VALUE;
    private static final int[] EDGES = {0, 1, 2, 0x7F, 0x80, 0xFF, 0x100, 0x7FFF, 0x8000, 0xFFFF, 0x10000, GREATEST - 1, GREATEST, LEAST,
        LEAST + 1, -2, -1};

    /** ZF, SF and PF of a result, found by counting. */
    private static int zsp(long result, int bits) {
        long kept = bits == 8 ? result & 255 : result & 0xFFFFFFFFL;
        int found = Long.bitCount(kept & 255) % 2 == 0 ? PF : 0;
        if (kept == 0) found |= ZF;
        if ((kept >> (bits - 1)) != 0) found |= SF;
        return found;
    }

    // ---- d op s ----

    /** What "d op s" gives, and the flags among CF OF ZF SF PF that are due, by whole numbers that do not wrap. */
    private static long[] op(int k, int d, int s, int carry, int bits) {
        long mask = bits == 8 ? 255 : 0xFFFFFFFFL;
        long du = d & mask, su = s & mask;
        long ds = bits == 8 ? (byte) d : d, ss = bits == 8 ? (byte) s : s;
        long used = k == 2 || k == 3 ? carry : 0;
        long least = -(1L << (bits - 1)), greatest = (1L << (bits - 1)) - 1;
        long signed = 0, result;
        boolean cf = false;
        switch (k) {
            case 0: case 2: result = du + su + used; signed = ds + ss + used; cf = result > mask; break;
            case 3: case 5: case 7: result = du - su - used; signed = ds - ss - used; cf = du < su + used; break;
            case 1: result = du | su; break;
            case 4: result = du & su; break;
            default: result = du ^ su;
        }
        int flags = zsp(result, bits) | (cf ? CF : 0) | (signed < least || signed > greatest ? OF : 0);
        return new long[] {result & mask, flags};
    }

    private static void everyPairOfBytes() {
        says("ADD, ADC: CF = carry out of the width; SUB, SBB, CMP: CF = borrow (d < s, or s + CF, as unsigned numbers without wrapping);"
            + " OF = the signed result does not fit the width; OR, AND, XOR: CF = OF = 0.");
        for (int k = 0; k < 8; k++) {
            for (int carry = 0; carry < 2; carry++) {
                for (int d = 0; d < 256; d++) {
                    // Each machine does one d with 64 values of s: CL op BL, then back.
                    for (int from = 0; from < 256; from += 64) {
                        Pc32 x = with(imm(8 * k, 1) + "D9 EB FC");
                        for (int s = from; s < from + 64; s++) {
                            set(x, ECX, 0x5500 | d, EBX, 0x6600 | s, FLAGS, carry | OF * (s & 1), EIP, 0);
                            x.run(1);
                            long[] due = op(k, d, s, carry, 8);
                            Expect.same("k " + k + " of " + d + ", " + s, x.reg(ECX), 0x5500 | (k == 7 ? d : due[0]));
                            Expect.same("flags of k " + k + " of " + d + ", " + s + " carry " + carry, x.reg(FLAGS), due[1] | 2);
                        }
                    }
                }
            }
        }
    }

    private static void edgesOfWords() {
        for (int k = 0; k < 8; k++) {
            for (int carry = 0; carry < 2; carry++) {
                for (int d : EDGES) {
                    Pc32 x = with(imm(8 * k + 1, 1) + "D9 EB FC");
                    for (int s : EDGES) {
                        set(x, ECX, d, EBX, s, FLAGS, carry | IF | DF, EIP, 0);
                        x.run(1);
                        long[] due = op(k, d, s, carry, 32);
                        Expect.same("k " + k + " of " + d + ", " + s, x.reg(ECX), k == 7 ? d : (int) due[0]);
                        Expect.same("flags of k " + k + " of " + d + ", " + s, x.reg(FLAGS), due[1] | 2 | IF | DF);
                    }
                }
            }
        }
    }

    /** The nine encodings of "d op s", d and s in registers, in memory and in the instruction; the result and the flags of each. */
    private static void everyEncoding() {
        says("00+8k r/m8 op r8; 01+8k r/m32 op r32; 02+8k r8 op r/m8; 03+8k r32 op r/m32; 04+8k ib AL op ib; 05+8k id EAX op id; 80 /k ib r/m8 op"
            + " ib; 81 /k id r/m32 op id; 83 /k ib r/m32 op ib sx; \"d op s\" is for k: 0 ADD d+s, 1 OR, 2 ADC d+s+CF, 3 SBB d-s-CF, 4 AND, 5 SUB"
            + " d-s, 6 XOR, 7 CMP (as SUB, but d is only read, not written).");
        for (int k = 0; k < 8; k++) {
            for (int d : EDGES) {
                for (int s : EDGES) {
                    String low = imm(s, 1), all = imm(s, 4);
                    encoding(k, 8, d, s, EAX, imm(8 * k, 1) + "D8");
                    encoding(k, 32, d, s, EAX, imm(8 * k + 1, 1) + "D8");
                    encoding(k, 8, d, s, EAX, imm(8 * k + 2, 1) + "C3");
                    encoding(k, 32, d, s, EAX, imm(8 * k + 3, 1) + "C3");
                    encoding(k, 8, d, s, EAX, imm(8 * k + 4, 1) + low);
                    encoding(k, 32, d, s, EAX, imm(8 * k + 5, 1) + all);
                    encoding(k, 8, d, s, EAX, "80" + imm(0xC0 + 8 * k, 1) + low);
                    encoding(k, 32, d, s, EAX, "81" + imm(0xC0 + 8 * k, 1) + all);
                    encoding(k, 32, d, (byte) s, EDI, "83" + imm(0xC7 + 8 * k, 1) + low);
                    encodingInMemory(k, 8, d, s, imm(8 * k, 1) + "1E");
                    encodingInMemory(k, 32, d, s, imm(8 * k + 1, 1) + "1E");
                    encodingInMemory(k, 8, d, s, "80" + imm(0x06 + 8 * k, 1) + low);
                    encodingInMemory(k, 32, d, s, "81" + imm(0x06 + 8 * k, 1) + all);
                    encodingInMemory(k, 32, d, (byte) s, "83" + imm(0x06 + 8 * k, 1) + low);
                }
            }
        }
    }

    private static void encoding(int k, int bits, int d, int s, int into, String hex) {
        long[] due = op(k, d, s, d & CF, bits);
        int result = k == 7 ? d : bits == 8 ? d & ~255 | (int) due[0] : (int) due[0];
        Pc32 x = ran(hex, EBX, s, into, d, FLAGS, d & CF);
        has(hex + " of " + d + ", " + s, x, into, result, FLAGS, 2 | (int) due[1], EIP, lengthOf(hex), EBX, s);
    }

    private static void encodingInMemory(int k, int bits, int d, int s, String hex) {
        long[] due = op(k, d, s, d & CF, bits);
        int result = k == 7 ? d : bits == 8 ? d & ~255 | (int) due[0] : (int) due[0];
        Pc32 x = with(hex, EBX, s, ESI, 0x81, FLAGS, d & CF);
        x.poke(0x80, 0x5A, 1);
        x.poke(0x81, d, 4);
        x.poke(0x85, 0xA5, 1);
        x.run(1);
        has(hex + " of " + d + ", " + s, x, FLAGS, 2 | (int) due[1], EIP, lengthOf(hex), EBX, s, ESI, 0x81);
        Expect.same(hex + " of " + d + ", " + s, x.peek(0x80, 6), 0xA5L << 40 | (result & 0xFFFFFFFFL) << 8 | 0x5A);
    }

    private static void resultFlags() {
        says("All: ZF = result is 0, SF = top bit of the result, PF = the low 8 bits of the result hold an even number of ones (\"ZSP of the"
            + " result\").");
        for (int low = 0; low < 256; low++) {
            for (int high : new int[] {0, 0x100, 0x7F00, 0x80000000, 0xFFFFFF00, 0x00010000}) {
                int value = high | low;
                Pc32 x = ran("0D" + imm(value, 4), FLAGS, ALL_FLAGS & ~zsp(value, 32));
                has("ZSP of " + value, x, FLAGS, 2 | IF | DF | zsp(value, 32));
            }
            Pc32 x = ran("0C" + imm(low, 1), EAX, 0xFFFFFF00);
            has("ZSP of the byte " + low, x, FLAGS, 2 | zsp(low, 8));
        }
    }

    private static void compareOnlyReads() {
        says("7 CMP (as SUB, but d is only read, not written).");
        String[] forms = {"38 0E", "39 0E", "80 3E 05", "81 3E 05 00 00 00", "83 3E 05"};
        for (String hex : forms) {
            Pc32 x = paged(3, hex, ESI, DATA, ECX, 5);
            x.poke(0xC0, 3, 4);
            page(x, 1, 0xC5);
            notDelivered(hex, x);
            has(hex, x, FLAGS, 2 | CF | SF | zsp(-2, 32));
            Expect.same(hex + ": d", x.peek(0xC0, 4), 3);
            Expect.same(hex + ": mark", page(x, 1), 0xCD);
        }
        has("CMP r, r/m", ran("3B C1", EAX, 3, ECX, 5), EAX, 3, ECX, 5);
        has("CMP AL", ran("3C 05", EAX, 0x103), EAX, 0x103, FLAGS, 2 | CF | SF | zsp(-2, 8));
        has("CMP EAX", ran("3D 05 00 00 00", EAX, 3), EAX, 3);
    }

    // ---- INC, DEC ----

    private static void incAndDec() {
        says("40+n INC, 48+n DEC general register n; FF /0 INC, FF /1 DEC r/m32: OF, ZSP as ADD or SUB of 1; CF unchanged.");
        for (int value : EDGES) {
            for (int carry = 0; carry < 2; carry++) {
                for (int down = 0; down < 2; down++) {
                    int due = down == 1 ? value - 1 : value + 1;
                    int over = value == (down == 1 ? LEAST : GREATEST) ? OF : 0;
                    int flags = 2 | IF | DF | carry | over | zsp(due, 32);
                    int before = carry | IF | DF | (OF - over);
                    for (int n = 0; n < 8; n++) {
                        has("register " + n, ran(imm(0x40 + 8 * down + n, 1), n, value, FLAGS, before), n, due, FLAGS, flags, EIP, 1);
                        has("r/m register " + n, ran("FF" + imm(0xC0 + 8 * down + n, 1), n, value, FLAGS, before), n, due, FLAGS, flags, EIP, 2);
                    }
                    Pc32 x = with("FF" + imm(0x05 + 8 * down, 1) + "80 00 00 00", FLAGS, before);
                    x.poke(0x80, value, 4);
                    x.run(1);
                    Expect.same("in memory", (int) x.peek(0x80, 4), due);
                    has("in memory", x, FLAGS, flags, EIP, 6);
                }
            }
        }
    }

    // ---- PUSH, POP ----

    private static void pushTakesItsValueFirst() {
        says("PUSH: the value is taken (memory read) first; it is written as a word at ESP-4; then ESP = ESP-4.");
        Pc32 x = ran("54", ESP, 0x300);
        Expect.same("PUSH ESP", x.peek(0x2FC, 4), 0x300);
        has("PUSH ESP", x, ESP, 0x2FC);
        x = ran("FF F4", ESP, 0x300);
        Expect.same("FF /6 of ESP", x.peek(0x2FC, 4), 0x300);
        x = with("FF 74 24 FC", ESP, 0x300);
        x.poke(0x2FC, 0x87654321L, 4);
        x.run(1);
        Expect.same("the place itself", x.peek(0x2FC, 4), 0x87654321L);
        has("the place itself", x, ESP, 0x2FC, EIP, 4);
        x = with("FF 74 24 FE", ESP, 0x300);
        x.poke(0x2FC, 0x1122334455667788L, 8);
        x.run(1);
        Expect.same("half of the place", x.peek(0x2FC, 8), 0x1122334433445566L);
        x = paged(3, "FF 36", ESI, FREE + 9, ESP, FREE + 4);
        delivered("the read faults first", x, 14, 4);
        has("the read faults first", x, CR2, FREE + 9);
        x = paged(3, "FF 36", ESI, DATA, ESP, FREE + 4);
        delivered("then the write", x, 14, 6);
        has("then the write", x, CR2, FREE);
        pushed("ESP is as before", x, FREE + 4, 0x3002, CODE, 6);
        x = paged(3, "", EIP, NEXT_DATA, ESP, DATA);
        x.poke(0x100, 0x50, 1);
        page(x, 0, 0);
        delivered("onto the page below", x, 14, 6);
        has("onto the page below", x, CR2, DATA - 4);
    }

    private static void popGivesTheWordLast() {
        says("POP: the word at ESP is read; ESP = ESP+4; then the register gets the word (POP of ESP: ESP is the word).");
        for (int n = 0; n < 8; n++) {
            Pc32 x = with(imm(0x58 + n, 1), FLAGS, ALL_FLAGS);
            x.poke(0x300, 0xFEDCBA98L, 4);
            x.run(1);
            has("POP " + n, x, n, 0xFEDCBA98, EIP, 1, FLAGS, ALL_FLAGS | 2);
            if (n != ESP) has("POP " + n, x, ESP, 0x304);
        }
        Pc32 x = with("58", ESP, -1);
        x.poke(0, 0x332211, 3);
        Expect.load(x, 0x40, "58");
        x.setReg(EIP, 0x40);
        x.run(1);
        has("POP across the wrap", x, EAX, 0x332211FF, ESP, 3);
    }

    private static void pushAndPopOfEveryRegister() {
        says("50+n PUSH, 58+n POP register n;");
        for (int n = 0; n < 8; n++) {
            int value = n == ESP ? 0x300 : 0x80000000 + n;
            Pc32 x = ran(imm(0x50 + n, 1), n, value, FLAGS, ALL_FLAGS);
            Expect.same("PUSH " + n, (int) x.peek(0x2FC, 4), value);
            Expect.same("one word", x.peek(0x2F8, 4), 0);
            has("PUSH " + n, x, ESP, 0x2FC, EIP, 1, FLAGS, ALL_FLAGS | 2);
            // The last word of memory.
            x = with(imm(0x58 + n, 1), ESP, 0x3FC);
            x.poke(0x3FC, value, 4);
            x.run(1);
            has("POP " + n, x, n, value, EIP, 1);
        }
    }

    private static void pushImmediate() {
        says("68 id PUSH id; 6A ib PUSH ib sx; FF /6 PUSH r/m32.");
        Expect.same("68", ran("68 01 02 03 FF").peek(0x2FC, 4), 0xFF030201L);
        for (int b : new int[] {0, 0x7F, 0x80, 0xFF}) Expect.same("6A", (int) ran("6A" + imm(b, 1)).peek(0x2FC, 4), (byte) b);
        Pc32 x = with("FF 35 80 00 00 00");
        x.poke(0x80, 0x99887766L, 4);
        x.run(1);
        Expect.same("FF /6", x.peek(0x2FC, 4), 0x99887766L);
    }

    // ---- jumps ----

    private static boolean met(int c, int flags) {
        boolean less = ((flags & SF) != 0) ^ ((flags & OF) != 0);
        boolean[] even = {(flags & OF) != 0, (flags & CF) != 0, (flags & ZF) != 0, (flags & (CF | ZF)) != 0, (flags & SF) != 0,
            (flags & PF) != 0, less, less || (flags & ZF) != 0};
        return even[c / 2] ^ (c % 2 == 1);
    }

    private static void everyCondition() {
        says("Conditions: 0 OF, 2 CF, 4 ZF, 6 CF or ZF, 8 SF, 10 PF, 12 SF != OF, 14 ZF or SF != OF; an odd c is the negation of c-1.");
        for (int bits = 0; bits < 128; bits++) {
            int flags = 0;
            int[] all = {CF, PF, ZF, SF, IF, DF, OF};
            for (int i = 0; i < 7; i++) if ((bits >> i & 1) != 0) flags |= all[i];
            for (int c = 0; c < 16; c++) {
                int to = met(c, flags) ? 0x40 : 0;
                has("70+" + c, ran(imm(0x70 + c, 1) + "40", FLAGS, flags), EIP, 2 + to, FLAGS, flags | 2);
                has("0F 80+" + c, ran("0F" + imm(0x80 + c, 1) + "40 00 00 00", FLAGS, flags), EIP, 6 + to, FLAGS, flags | 2);
                has("0F 90+" + c, ran("0F" + imm(0x90 + c, 1) + "C2", FLAGS, flags, EDX, -1), EDX, to == 0 ? -256 : -255, FLAGS, flags | 2);
            }
        }
    }

    private static void jumpsOverTheWrap() {
        says("70+c cb, 0F 80+c cd: jump if condition c. EB cb, E9 cd: JMP. FF /4: JMP to the value of r/m32.");
        has("back below 0", ran("75 80"), EIP, 2 - 128);
        has("0F 85", ran("0F 85 F9 FF FF FF"), EIP, -1);
        has("EB", ran("EB FE"), EIP, 0);
        has("E9", ran("E9 FA FF FF FF"), EIP, -1);
        for (int n = 0; n < 8; n++) has("FF /4", ran("FF" + imm(0xE0 + n, 1), n, LEAST + n), EIP, LEAST + n, n, LEAST + n);
        Pc32 x = with("FF 24 8D 80 00 00 00", ECX, 3);
        x.poke(0x8C, 0xFFFFFFF0L, 4);
        x.run(1);
        has("FF /4 in memory", x, EIP, -16, ESP, 0x300);
    }

    private static void callFindsItsTargetFirst() {
        says("E8 cd CALL; FF /2 CALL r/m32: the target is found (memory read) first, the address of the next instruction is pushed, EIP = target.");
        Pc32 x = with("FF 54 24 FC", ESP, 0x300);
        x.poke(0x2FC, 0x80000001L, 4);
        x.run(1);
        has("the target is where the push goes", x, EIP, 0x80000001, ESP, 0x2FC);
        Expect.same("the target is where the push goes", x.peek(0x2FC, 4), 4);
        x = ran("FF D4", ESP, 0x300);
        has("CALL ESP", x, EIP, 0x300, ESP, 0x2FC);
        Expect.same("CALL ESP", x.peek(0x2FC, 4), 2);
        x = paged(3, "FF 16", ESI, FREE + 9, ESP, FREE + 4);
        delivered("the read faults first", x, 14, 4);
        has("the read faults first", x, CR2, FREE + 9);
        x = paged(3, "E8 00 01 00 00", ESP, FREE + 4);
        delivered("the push faults", x, 14, 6);
        pushed("EIP is that of the CALL", x, FREE + 4, 0x3002, CODE, 6);
        x = ran("E8 FB FF FF FF");
        has("CALL to itself", x, EIP, 0, ESP, 0x2FC);
        Expect.same("CALL to itself", x.peek(0x2FC, 4), 5);
        // A call to a place that cannot be fetched is done; the fetch is the next step.
        x = paged(3, "E8 00 10 00 00", ESP, NEXT_DATA);
        notDelivered("a call far away", x);
        has("a call far away", x, EIP, 0x1005);
    }

    private static void returns() {
        says("C3 RET: EIP is popped.");
        Pc32 x = with("C3", ESP, 0x3FE);
        x.poke(0x3FE, 0x1234, 2);
        x.run(1);
        has("RET over the end of memory", x, EIP, 0xFFFF1234, ESP, 0x402);
    }

    // ---- TEST, MOV and others ----

    private static void testWritesNothing() {
        says("84 TEST r/m8, r8; 85 TEST r/m32, r32: flags as AND, nothing written, r/m only read.");
        for (int s : EDGES) {
            has("85", ran("85 D9", ECX, s, EBX, 0x80000081, FLAGS, ALL_FLAGS), ECX, s, EBX, 0x80000081,
                FLAGS, 2 | IF | DF | zsp(s & 0x80000081, 32));
            has("84", ran("84 D9", ECX, s, EBX, 0x81, FLAGS, ALL_FLAGS), ECX, s, EBX, 0x81, FLAGS, 2 | IF | DF | zsp(s & 0x81, 8));
        }
        for (String hex : new String[] {"84 0E", "85 0E"}) {
            Pc32 x = paged(3, hex, ESI, DATA, ECX, -1);
            x.poke(0xC0, 0x55, 1);
            page(x, 1, 0xC5);
            notDelivered(hex, x);
            Expect.same(hex, x.peek(0xC0, 4), 0x55);
            Expect.same(hex + ": mark", page(x, 1), 0xCD);
        }
    }

    private static void movesOfBytes() {
        says("88 MOV r/m8, r8; 89 MOV r/m32, r32; 8A MOV r8, r/m8; 8B MOV r32, r/m32; B0+n ib MOV byte register n; B8+n id MOV register n;"
            + " C6 /0 ib MOV r/m8; C7 /0 id MOV r/m32.");
        for (int n = 0; n < 8; n++) {
            int byteOf = n < 4 ? 0x112233FF : 0x1122FF44;
            has("B0+" + n, ran(imm(0xB0 + n, 1) + "FF", n & 3, 0x11223344, FLAGS, ALL_FLAGS), n & 3, byteOf, FLAGS, ALL_FLAGS | 2, EIP, 2);
            has("B8+" + n, ran(imm(0xB8 + n, 1) + "FF FF FF 80"), n, 0x80FFFFFF, EIP, 5);
            has("C6 /0", ran("C6" + imm(0xC0 + n, 1) + "FF", n & 3, 0x11223344), n & 3, byteOf, EIP, 3);
            has("C7 /0", ran("C7" + imm(0xC0 + n, 1) + "FF FF FF 80"), n, 0x80FFFFFF, EIP, 6);
        }
        // The last byte of memory takes a byte; a word there keeps its lowest byte.
        Pc32 x = ran("88 0D FF 03 00 00", ECX, 0x1234);
        Expect.same("88", x.peek(0x3FF, 1), 0x34);
        x = ran("89 0D FF 03 00 00", ECX, 0x12345678);
        Expect.same("89", x.peek(0x3FF, 1), 0x78);
        x = with("8A 0D FF 03 00 00 8B 15 FF 03 00 00", ECX, -1);
        x.poke(0x3FF, 0x56, 1);
        x.run(2);
        has("8A and 8B", x, ECX, 0xFFFFFF56, EDX, 0xFFFFFF56);
    }

    private static void leaNeedsMemory() {
        says("8D LEA r32 = the linear address of r/m (mod 3 is not allowed).");
        for (int modRm = 0xC0; modRm < 0x100; modRm++) {
            Pc32 x = flat(3, "8D" + imm(modRm, 1));
            delivered("mod 3", x, 6, -1);
        }
        // The address is not translated: it may lie anywhere.
        Pc32 x = paged(3, "8D 86 00 00 00 80", ESI, 0x7FFFFFF0, FLAGS, ALL_FLAGS & ~IF);
        notDelivered("LEA", x);
        has("LEA", x, EAX, -16, FLAGS, ALL_FLAGS & ~IF | 2, CR2, 0);
    }

    private static void signOfEax() {
        says("90 NOP. 99: EDX = EAX >> 31 (signed).");
        for (int value : EDGES) {
            has("99", ran("99", EAX, value, EDX, 0x1234, FLAGS, ALL_FLAGS), EAX, value, EDX, value < 0 ? -1 : 0, FLAGS, ALL_FLAGS | 2, EIP, 1);
        }
        Pc32 x = with("90", FLAGS, ALL_FLAGS);
        x.run(1);
        for (int i = 0; i < 8; i++) has("NOP", x, i, i == ESP ? 0x300 : 0);
        has("NOP", x, FLAGS, ALL_FLAGS | 2, EIP, 1);
        has("NOP without flags", ran("90"), FLAGS, 2, EIP, 1);
    }

    private static void bytesWithoutSign() {
        says("0F 90+c: r/m8 = 1 if condition c, else 0. 0F B6: r32 = r/m8 without sign.");
        for (int b = 0; b < 256; b++) {
            has("0F B6", ran("0F B6 D9", ECX, 0xFFFFFF00 | b, EBX, -1), EBX, b);
            has("0F B6 of bits 8..15", ran("0F B6 FD", ECX, 0xFFFF00FF | b << 8), EDI, b);
        }
        Pc32 x = with("0F 92 05 FF 03 00 00 0F 93 05 FE 03 00 00", FLAGS, CF);
        x.poke(0x3FC, 0xFFFFFFFFL, 4);
        x.run(2);
        Expect.same("one byte each", x.peek(0x3FC, 4), 0x0100FFFFL);
    }

    private static void signedProducts() {
        says("0F AF IMUL: r32 = the low word of the signed 64-bit product r32 * r/m32, CF = OF = (the product does not fit 32 signed bits), ZSP of"
            + " the low word.");
        int[] factors = {0, 1, -1, 2, -2, 0x8000, -0x8000, 0xFFFF, 0x10000, -0x10000, 46340, 46341, -46341, GREATEST, LEAST, LEAST + 1};
        for (int a : factors) {
            for (int b : factors) {
                long product = (long) a * b;
                int over = product < LEAST || product > GREATEST ? CF | OF : 0;
                has("IMUL " + a + " * " + b, ran("0F AF D9", EBX, a, ECX, b, FLAGS, (CF | OF) - over, EDX, 7), EBX, (int) product, EDX, 7, ECX, b,
                    FLAGS, 2 | over | zsp(product, 32));
            }
        }
    }

    // ---- shifts ----

    /** One bit at a time: the result, and CF; OF is told by the caller. */
    private static int[] shifted(int q, int value, int by) {
        int carry = 0;
        int result = value;
        for (int i = 0; i < by; i++) {
            carry = q == 4 ? result >>> 31 : result & 1;
            result = q == 4 ? result * 2 : q == 5 ? result >>> 1 : result >> 1;
        }
        return new int[] {result, carry};
    }

    private static void everyCount(int q, int value) {
        for (int count = 0; count < 256; count++) {
            int by = count % 32;
            int[] due = shifted(q, value, by);
            int over = q == 4 ? (due[0] >>> 31) ^ due[1] : q == 5 ? value >>> 31 : 0;
            for (int before : new int[] {0, ALL_FLAGS}) {
                int flags = by == 0 ? before | 2 : 2 | before & (IF | DF) | due[1] | over * OF | zsp(due[0], 32);
                String what = "q " + q + " of " + value + " by " + count;
                has(what, ran("C1" + imm(0xC2 + 8 * q, 1) + imm(count, 1), EDX, value, FLAGS, before), EDX, due[0], FLAGS, flags, EIP, 3);
                has(what, ran("D3" + imm(0xC2 + 8 * q, 1), EDX, value, ECX, 0xABCDEF00 | count, FLAGS, before), EDX, due[0], FLAGS, flags,
                    ECX, 0xABCDEF00 | count, EIP, 2);
                if (count == 1) has(what, ran("D1" + imm(0xC2 + 8 * q, 1), EDX, value, FLAGS, before), EDX, due[0], FLAGS, flags, EIP, 2);
            }
        }
    }

    private static final int[] SHIFTED = {0, 1, 0x40000000, 0x80000000, 0xC0000000, 0x80000001, 0x7FFFFFFF, -1, 0x12345678, 0xFEDCBA98};

    private static void fiveBitsOfTheCount() {
        says("by ib, 1, CL; only the low 5 bits of the count are used.");
        for (int q : new int[] {4, 5, 7}) everyCount(q, 0x81234567);
        has("CL is ECX's own byte", ran("D3 E1", ECX, 33), ECX, 66);
    }

    private static void shiftsByNothing() {
        says("Count 0: r/m is written with its old value, no flag changes.");
        for (String hex : new String[] {"C1 26 00", "C1 2E 20", "C1 3E E0", "D3 26", "D3 2E", "D3 3E"}) {
            for (int before : new int[] {0, ALL_FLAGS & ~IF}) {
                Pc32 x = paged(3, hex, ESI, DATA, ECX, 0x60, FLAGS, before);
                x.poke(0xC0, 0x87654321L, 4);
                notDelivered(hex, x);
                Expect.same(hex + ": old value", x.peek(0xC0, 4), 0x87654321L);
                Expect.same(hex + ": mark of writing", page(x, 1), 0xDF);
                has(hex, x, FLAGS, before | 2);
                x = paged(3, hex, ESI, DATA, ECX, 0x60, FLAGS, before);
                page(x, 1, 0xC5);
                delivered(hex + " where it may not be written", x, 14, 7);
            }
        }
    }

    private static void shiftsLeft() {
        says("Else SHL: CF = last bit shifted out at the top, OF = top bit of the result xor CF;");
        for (int value : SHIFTED) everyCount(4, value);
    }

    private static void shiftsRight() {
        says("SHR (zeros come in): CF = last bit shifted out at the bottom, OF = top bit of the old value;");
        for (int value : SHIFTED) everyCount(5, value);
    }

    private static void shiftsRightWithSign() {
        says("SAR (copies of the top bit come in): CF the same, OF = 0; all: ZSP of the result.");
        for (int value : SHIFTED) everyCount(7, value);
    }

    private static void shiftsNotAllowed() {
        says("C1 /q ib, D1 /q, D3 /q on r/m32, q = 4 SHL, 5 SHR, 7 SAR (others not allowed)");
        for (String op : new String[] {"C1", "D1", "D3"}) {
            for (int modRm = 0; modRm < 256; modRm++) {
                int q = modRm >> 3 & 7;
                Pc32 x = paged(3, "", EIP, 62, EAX, DATA, ECX, DATA, EDX, DATA, EBX, DATA, EBP, DATA, ESI, DATA, EDI, DATA);
                Expect.load(x, 0xBE, op + imm(modRm, 1));
                page(x, 1, 0xC7);
                boolean allowed = q == 4 || q == 5 || q == 7;
                if (!allowed) {
                    page(x, 1, 0);
                    delivered(op + " /" + q, x, 6, -1);
                    has(op + " /" + q + ": nothing more is read", x, CR2, 0);
                } else {
                    x.run(1);
                    Expect.no(op + " /" + q, x.reg(VECTOR) == 6);
                }
            }
        }
    }

    // ---- F7 ----

    private static void notAndNeg() {
        says("F7 on r/m32: /2 NOT (no flags); /3 NEG (0 - d, flags as SUB);");
        for (int value : EDGES) {
            has("NOT", ran("F7 D1", ECX, value, FLAGS, ALL_FLAGS), ECX, -1 - value, FLAGS, ALL_FLAGS | 2);
            has("NOT", ran("F7 D1", ECX, value, FLAGS, 0), ECX, -1 - value, FLAGS, 2);
            int flags = 2 | (value != 0 ? CF : 0) | (value == LEAST ? OF : 0) | zsp(-(long) value, 32);
            has("NEG", ran("F7 D9", ECX, value, FLAGS, value == 0 ? CF : 0), ECX, -value, FLAGS, flags);
        }
    }

    private static void productsWithoutSign() {
        says("/4 MUL: EDX:EAX = EAX * r/m32, unsigned 64 bits, CF = OF = (EDX is not 0), ZSP of EAX;");
        int[] factors = {0, 1, 2, 3, 0xFFFF, 0x10000, 0x10001, GREATEST, LEAST, -2, -1};
        for (int a : factors) {
            for (int b : factors) {
                long product = (a & 0xFFFFFFFFL) * (b & 0xFFFFFFFFL);
                int high = (int) (product >>> 32);
                int over = high != 0 ? CF | OF : 0;
                has("MUL", ran("F7 E1", EAX, a, ECX, b, EDX, 5, FLAGS, (CF | OF) - over), EAX, (int) product, EDX, high, ECX, b,
                    FLAGS, 2 | over | zsp(product, 32));
            }
            long square = (a & 0xFFFFFFFFL) * (a & 0xFFFFFFFFL);
            has("MUL EAX", ran("F7 E0", EAX, a), EAX, (int) square, EDX, (int) (square >>> 32));
        }
        has("MUL EDX", ran("F7 E2", EAX, -1, EDX, 2), EAX, -2, EDX, 1, FLAGS, 2 | CF | OF | SF);
    }

    private static void divide(long dividend, int divisor) {
        int low = (int) dividend, high = (int) (dividend >> 32);
        Pc32 x = flat(3, "F7 F9", EAX, low, EDX, high, ECX, divisor, FLAGS, ALL_FLAGS);
        java.math.BigInteger n = java.math.BigInteger.valueOf(dividend);
        String what = dividend + " by " + divisor;
        boolean fits = false;
        java.math.BigInteger[] due = null;
        if (divisor != 0) {
            due = n.divideAndRemainder(java.math.BigInteger.valueOf(divisor));
            fits = due[0].bitLength() <= 31;
        }
        if (fits) {
            notDelivered(what, x);
            has(what, x, EAX, due[0].intValue(), EDX, due[1].intValue(), ECX, divisor, FLAGS, ALL_FLAGS | 2, EIP, FLAT_CODE + 2);
        } else {
            delivered(what, x, 0, -1);
            has(what, x, EAX, low, EDX, high, ECX, divisor, FLAGS, ALL_FLAGS & ~IF | 2);
            pushedBelow(what, x, FLAT_KERNEL_STACK, FLAT_STACK, ALL_FLAGS | 0x3002, FLAT_CODE, 0);
        }
    }

    private static void divisions() {
        says("/7 IDIV: the signed 64-bit number EDX:EAX by the signed r/m32: EAX = the quotient towards 0, EDX = the remainder with the dividend's"
            + " sign, no flags; fault 0 if the divisor is 0 or the quotient does not fit 32 signed bits.");
        int[] divisors = {0, 1, -1, 2, -2, 3, -3, 7, GREATEST, LEAST, LEAST + 1};
        for (int divisor : divisors) {
            for (int low : EDGES) for (int high : new int[] {0, -1, 1, -2, GREATEST, LEAST}) divide((long) high << 32 | low & 0xFFFFFFFFL, divisor);
            // The dividends whose quotient is the last that fits, and the first that does not.
            for (long quotient : new long[] {GREATEST, LEAST}) {
                for (long off = -2; off <= 2; off++) {
                    divide(quotient * divisor + off, divisor);
                    divide((quotient + 1) * divisor + off, divisor);
                    divide((quotient - 1) * divisor + off, divisor);
                }
            }
        }
    }

    private static void notAllowedInF7() {
        says("(F7 /0, /1, /5, /6 are not allowed.)");
        for (int modRm = 0; modRm < 256; modRm++) {
            int reg = modRm >> 3 & 7;
            if (reg == 0 || reg == 1 || reg == 5 || reg == 6) delivered("F7 " + modRm, flat(3, "F7" + imm(modRm, 1) + "00"), 6, -1);
        }
        for (int reg : new int[] {2, 3, 4, 7}) notDelivered("F7 /" + reg, flat(3, "F7" + imm(0xC1 + 8 * reg, 1), ECX, 1));
    }

    // ---- flags ----

    private static void flagForms() {
        says("F5 CF = not CF; F8 CF = 0; F9 CF = 1; FC DF = 0; FD DF = 1; FA (P) IF = 0; FB (P) IF = 1.");
        for (int flags : new int[] {0, ALL_FLAGS, CF, DF, IF, ALL_FLAGS & ~CF, ALL_FLAGS & ~DF, ALL_FLAGS & ~IF}) {
            String[] forms = {"F5", "F8", "F9", "FC", "FD", "FA", "FB"};
            int[] due = {flags ^ CF, flags & ~CF, flags | CF, flags & ~DF, flags | DF, flags & ~IF, flags | IF};
            for (int i = 0; i < 7; i++) has(forms[i], ran(forms[i], FLAGS, flags), FLAGS, due[i] | 2, EIP, 1);
        }
        for (String hex : new String[] {"FA", "FB"}) {
            Pc32 x = flat(3, hex);
            delivered(hex + " at CPL 3", x, 13, 0);
        }
        // FB lets the interrupt in at the very next step, FA keeps it out at once.
        Pc32 x = flat(0, "FB 40");
        x.irq(32);
        x.run(2);
        has("FB", x, VECTOR, 32, EAX, 0);
        x = flat(0, "FB FA 40");
        x.run(2);
        x.irq(32);
        x.run(1);
        has("FA", x, VECTOR, -1, EAX, 1, PENDING, 32);
    }

    // ---- strings ----

    private static void moveByte() {
        says("A4 MOVSB: the byte at ESI is read, then written at EDI, then ESI and EDI go up by 1 (DF 0) or down by 1 (DF 1).");
        for (int down = 0; down < 2; down++) {
            int by = down == 1 ? -1 : 1;
            for (int[] row : new int[][] {{0x80, 0x90}, {0, 0x90}, {0x80, 0}, {0x3FF, 0x90}, {0x80, 0x3FF}, {0x80, 0x80}}) {
                Pc32 x = flat(0, "A4", ESI, row[0], EDI, row[1], FLAGS, DF * down, ECX, 0);
                x.poke(row[0], 0xA5, 1);
                notDelivered("MOVSB", x);
                Expect.same("MOVSB", x.peek(row[1], 1), 0xA5);
                has("MOVSB", x, ESI, row[0] + by, EDI, row[1] + by, ECX, 0, FLAGS, 2 | DF * down, EIP, FLAT_CODE + 1);
            }
            Pc32 x = flat(0, "A4", ESI, down == 1 ? 0 : -1, EDI, down == 1 ? 0 : -1, FLAGS, DF * down);
            notDelivered("over the wrap", x);
            has("over the wrap", x, ESI, down == 1 ? -1 : 0, EDI, down == 1 ? -1 : 0);
            x = flat(0, "A4", ESI, 0x400, EDI, 0x90);
            x.run(1);
            Expect.same("past the end", x.peek(0x90, 1), 255);
        }
        Pc32 x = paged(3, "A4", ESI, NEXT_DATA - 1, EDI, STACK_END - 1);
        page(x, 2, 0);
        x.poke(0xFF, 0x5A, 1);
        notDelivered("one byte, at the ends of two pages", x);
        Expect.same("one byte, at the ends of two pages", x.peek(0x17F, 1), 0x5A);
        has("one byte, at the ends of two pages", x, ESI, NEXT_DATA, EDI, STACK_END, CR2, 0);
        x = paged(3, "A4", ESI, FREE, EDI, FREE + 64);
        delivered("the read faults first", x, 14, 4);
        has("the read faults first", x, CR2, FREE);
        x = paged(3, "A4", ESI, DATA, EDI, FREE + 64, FLAGS, DF);
        delivered("then the write", x, 14, 6);
        has("then the write", x, CR2, FREE + 64, ESI, DATA, EDI, FREE + 64);
    }

    private static void storeByte() {
        says("AA STOSB: AL is written at EDI, EDI moves so.");
        for (int down = 0; down < 2; down++) {
            for (int at : new int[] {0, 0x80, 0x3FF}) {
                Pc32 x = flat(0, "AA", EDI, at, EAX, 0x123456A5, ESI, 77, ECX, 9, FLAGS, DF * down);
                notDelivered("STOSB", x);
                Expect.same("STOSB", x.peek(at, 1), 0xA5);
                has("STOSB", x, EDI, at + (down == 1 ? -1 : 1), ESI, 77, ECX, 9, EAX, 0x123456A5, FLAGS, 2 | DF * down);
            }
            Pc32 x = flat(0, "AA", EDI, down == 1 ? 0 : -1, FLAGS, DF * down);
            notDelivered("over the wrap", x);
            has("over the wrap", x, EDI, down == 1 ? -1 : 0);
        }
        Pc32 x = paged(3, "AA", EDI, STACK_END - 1, EAX, 0x5A5A5A5A);
        notDelivered("one byte, at the end of a page", x);
        Expect.same("one byte, at the end of a page", x.peek(0x17C, 4), 0x5A000000L);
        x = paged(3, "AA", EDI, FREE);
        delivered("STOSB", x, 14, 6);
        has("STOSB", x, CR2, FREE, EDI, FREE);
    }

    private static void repeated() {
        says("F3 A4, F3 AA: ECX 0: nothing happens, EIP goes on. Else one byte as without F3, ECX = ECX-1, and if ECX is now not 0, EIP stays at the"
            + " F3 (every byte is a step of its own).");
        for (String hex : new String[] {"F3 A4", "F3 AA"}) {
            int moves = hex.endsWith("A4") ? 1 : 0;
            // ECX 0: ESI and EDI may lead anywhere.
            Pc32 x = paged(3, hex, ESI, 0x87654321, EDI, 0x12345678, FLAGS, DF, CR2, 3);
            notDelivered(hex + " with ECX 0", x);
            has(hex + " with ECX 0", x, ECX, 0, ESI, 0x87654321, EDI, 0x12345678, EIP, 2, CR2, 3, FLAGS, 2 | DF);
            for (int count : new int[] {1, 2, 3, 199, 200, 201, LEAST, -1, 0x10000, 0x100}) {
                x = flat(0, hex, ECX, count, ESI, 0x500, EDI, 0x600, EAX, 7, FLAGS, ZF);
                notDelivered(hex, x);
                has(hex + " one byte", x, ECX, count - 1, ESI, 0x500 + moves, EDI, 0x601, EIP, FLAT_CODE + (count == 1 ? 2 : 0), FLAGS, 2 | ZF);
            }
            x = flat(0, hex + "F4", ECX, 5, ESI, 0x80, EDI, 0x90, EAX, 0x77);
            x.poke(0x80, 0x7777777777L, 5);
            Expect.same(hex + " and HLT", x.run(200), 6);
            Expect.same(hex + ": five bytes", x.peek(0x90, 6), 0x7777777777L);
            has(hex + ": five bytes", x, ECX, 0, EDI, 0x95, EIP, FLAT_CODE + 3);
        }
    }

    private static void repeatedAndFaults() {
        // The third byte faults: two are done, and the return address is that of the F3.
        Pc32 x = paged(3, "90 F3 AA", EIP, 1, EDI, STACK_END - 2, ECX, 5, EAX, 0x55);
        Expect.same("two bytes", x.run(2), 2);
        delivered("the third", x, 14, 6);
        has("the third", x, ECX, 3, EDI, STACK_END, CR2, STACK_END);
        pushed("the third", x, STACK_END, 0x3002, 1, 6);
        // An interrupt between two bytes comes back to the F3.
        x = flat(0, "90 F3 A4", EIP, FLAT_CODE + 1, ECX, 5, ESI, 0x80, EDI, 0x90, FLAGS, IF);
        x.run(2);
        x.irq(33);
        delivered("an interrupt between bytes", x, 33, -1);
        has("an interrupt between bytes", x, ECX, 3, ESI, 0x82, EDI, 0x92);
        pushedBelow("an interrupt between bytes", x, FLAT_STACK, FLAT_STACK, 2 | IF, FLAT_CODE + 1);
        // The bytes may overwrite the instruction itself; the next step fetches it anew.
        x = flat(0, "F3 AA 40", ECX, 9, EDI, FLAT_CODE + 1, EAX, 0x90);
        x.run(1);
        has("overwritten", x, ECX, 8, EIP, FLAT_CODE);
        delivered("F3 90 is no form", x, 6, -1);
    }

    // ---- OUT, INT, IRET, HLT, control registers ----

    private static void out() {
        says("E6 ib (P) OUT: a port write, of value AL to port ib.");
        for (int port : new int[] {0, 1, 127, 128, 255}) {
            for (int value : new int[] {0, 1, 127, 128, 255}) {
                Pc32 x = ran("E6" + imm(port, 1), EAX, 0xFFFFFF00 | value, FLAGS, ALL_FLAGS);
                Expect.same("OUT", x.portWrite(0), 256 * port + value);
                Expect.same("one", x.portWrites(), 1);
                has("OUT", x, EIP, 2, EAX, 0xFFFFFF00 | value, FLAGS, ALL_FLAGS | 2);
            }
        }
        Pc32 x = flat(3, "E6 05");
        delivered("at CPL 3", x, 13, 0);
        Expect.same("at CPL 3", x.portWrites(), 0);
    }

    private static void interruptsAtEveryVector() {
        says("CD ib INT, vector v = ib; CC: INT with v = 3. At CPL 3 with bit 15 of the interrupt table's half word for v clear: fault 13 with error"
            + " code 8v + 2. Else v is delivered without error code, with the address of the next instruction.");
        for (int v = 0; v < 256; v++) {
            String hex = "CD" + imm(v, 1);
            Pc32 x = flat(3, hex, FLAGS, IF);
            delivered(hex + " without bit 15", x, 13, 8 * v + 2);
            pushedBelow(hex, x, FLAT_KERNEL_STACK, FLAT_STACK, 0x3202, FLAT_CODE, 8 * v + 2);
            x = flat(3, hex, FLAGS, IF);
            flatEntry(x, v, 0x8000 | handler(v));
            delivered(hex + " with bit 15", x, v, -1);
            pushedBelow(hex, x, FLAT_KERNEL_STACK, FLAT_STACK, 0x3202, FLAT_CODE + 2, 0);
            for (int bit : new int[] {0, 0x8000}) {
                x = flat(0, hex);
                flatEntry(x, v, bit | handler(v));
                delivered(hex + " at CPL 0", x, v, -1);
                pushedBelow(hex, x, FLAT_STACK, FLAT_STACK, 2, FLAT_CODE + 2, 0);
            }
        }
        Pc32 x = flat(3, "CC");
        delivered("CC without bit 15", x, 13, 26);
        pushedBelow("CC without bit 15", x, FLAT_KERNEL_STACK, FLAT_STACK, 0x3002, FLAT_CODE, 26);
        x = flat(3, "CC");
        flatEntry(x, 3, 0x8000 | handler(3));
        delivered("CC", x, 3, -1);
        pushedBelow("CC", x, FLAT_KERNEL_STACK, FLAT_STACK, 0x3002, FLAT_CODE + 1, 0);
        x = flat(3, "CD 20");
        flatEntry(x, 32, 0);
        delivered("an empty entry at CPL 3", x, 13, 8 * 32 + 2);
        x = flat(3, "CD 20");
        flatEntry(x, 32, 0x8000);
        delivered("an entry of bit 15 alone", x, 13, 8 * 32 + 2);
        pushedBelow("an entry of bit 15 alone", x, FLAT_KERNEL_STACK, FLAT_STACK, 0x3002, FLAT_CODE, 8 * 32 + 2);
        // Without bit 15 it is a fault 13 of the instruction, which then meets no entry: below 32.
        x = flat(3, "CD 20");
        flatEntry(x, 13, 0);
        delivered("13 has no entry", x, 8, 0);
    }

    private static void iret() {
        says("CF (P) IRET: the words at ESP, ESP+4, ESP+8 are read, in this order; then EIP = the first; CF, PF, ZF, SF, IF, DF, OF from the second;"
            + " CPL = 0 if bits 12 and 13 of the second are both 0, else 3; ESP = the third.");
        for (int bits = 0; bits < 4; bits++) {
            for (int other : new int[] {0, -1, ALL_FLAGS, 2, 0xFFFFC000}) {
                int second = other & ~0x3000 | bits << 12;
                Pc32 x = flat(0, "CF", FLAGS, ~other);
                x.poke(FLAT_STACK, 0x80000001L, 4);
                x.poke(FLAT_STACK + 4, second, 4);
                x.poke(FLAT_STACK + 8, 0xFFFFFFFEL, 4);
                notDelivered("IRET", x);
                has("IRET", x, EIP, 0x80000001, FLAGS, second & ALL_FLAGS | 2, CPL, bits == 0 ? 0 : 3, ESP, -2);
                Expect.same("RUNNING", x.status(), Pc32.RUNNING);
            }
        }
        // In this order: with the first and the third word absent, the first faults.
        Pc32 x = paged(0, "CF", ESP, FREE + 58);
        page(x, 5, 0xC7);
        page(x, 4, 0);
        x.run(1);
        has("the first word", x, CR2, FREE + 54);
        Expect.same("the later words are not reached", page(x, 5), 0xC7);
        // IRET that sets IF: the interrupt comes at the next step, from the new place.
        x = flat(0, "CF");
        x.poke(FLAT_STACK, 0x60, 4);
        x.poke(FLAT_STACK + 4, 0x3200, 4);
        x.poke(FLAT_STACK + 8, 0x100, 4);
        x.irq(35);
        x.run(2);
        has("then the interrupt", x, VECTOR, 35, CPL, 0, ESP, FLAT_KERNEL_STACK - 12);
        pushedBelow("then the interrupt", x, FLAT_KERNEL_STACK, 0x100, 0x3202, 0x60);
    }

    private static void halt() {
        says("F4 (P) HLT: status becomes HALTED.");
        Pc32 x = ran("F4", FLAGS, ALL_FLAGS);
        Expect.same("HALTED", x.status(), Pc32.HALTED);
        has("HLT", x, EIP, 1, FLAGS, ALL_FLAGS | 2);
        x = flat(0, "F4", FLAGS, IF);
        x.irq(32);
        delivered("a pending interrupt comes before HLT", x, 32, -1);
        x = flat(0, "FB F4");
        x.run(1);
        x.irq(32);
        x.run(1);
        Expect.same("RUNNING", x.status(), Pc32.RUNNING);
        pushedBelow("the HLT was not done", x, FLAT_STACK, FLAT_STACK, 2 | IF, FLAT_CODE + 1);
    }

    private static void controlRegisters() {
        says("0F 20 /r (P, mod 3 only): register rm = CR reg; 0F 22 /r (P, mod 3 only): CR reg = register rm, masked as above; reg 0, 2, 3, 4, 5"
            + " (others not allowed); CR0 reads as 0 or 0x80000000.");
        int[] masks = {LEAST, 0, -1, 0x3F0, 0x3FE, -1, 0, 0};
        for (int modRm = 0; modRm < 256; modRm++) {
            int reg = modRm >> 3 & 7, rm = modRm & 7;
            boolean allowed = modRm >= 0xC0 && reg != 1 && reg < 6;
            String m = imm(modRm, 1);
            if (!allowed) {
                delivered("0F 20 " + m, flat(0, "0F 20" + m + "00 00 00 00 00"), 6, -1);
                delivered("0F 22 " + m, flat(0, "0F 22" + m + "00 00 00 00 00"), 6, -1);
                delivered("0F 22 " + m + " at CPL 3", flat(3, "0F 22" + m), 6, -1);
                continue;
            }
            int which = reg == 0 ? CR0 : 9 + reg;
            for (int value : new int[] {-1, 0, LEAST, GREATEST, 0x3FF, 0x400}) {
                Pc32 x = ran("0F 22" + m, rm, value);
                has("0F 22 " + m, x, which, value & masks[reg], rm, value, EIP, 3);
                x = with("0F 20" + m, which == CR0 ? CR2 : which, value);
                x.run(1);
                has("0F 20 " + m, x, rm, which == CR0 ? 0 : value & masks[reg], EIP, 3);
            }
            delivered("at CPL 3", flat(3, "0F 20" + m), 13, 0);
            delivered("at CPL 3", flat(3, "0F 22" + m), 13, 0);
        }
        Pc32 x = paged(0, "0F 20 C1");
        notDelivered("CR0 with paging", x);
        has("CR0 with paging", x, ECX, LEAST);
    }

    private static void pagingOnAndOff() {
        // 0F 22 of CR0 counts from the next fetch on: linear 43h is then on page 1, which is the frame 80h.
        Pc32 x = flat(0, "0F 22 C0 40", EAX, LEAST, CR3, 0x100);
        x.poke(0x100, 0x117, 2);
        x.poke(0x112, 0x87, 2);
        Expect.load(x, 0x83, "43 0F 22 C1");
        x.run(1);
        has("paging on", x, CR0, LEAST, EIP, FLAT_CODE + 3);
        x.run(1);
        has("the next fetch", x, EBX, 1, EAX, LEAST);
        x.run(1);
        has("paging off", x, CR0, 0, EIP, FLAT_CODE + 7, DELIVERIES, 0);
    }

    private static void eipGoesOn() {
        says("Unless it is said otherwise EIP becomes the address of the next instruction.");
        String[] forms = {"00 C0", "04 01", "05 01 00 00 00", "80 C0 01", "81 C0 01 00 00 00", "83 C0 01", "40", "48", "50", "58", "68 00 00 00 00",
            "6A 00", "84 C0", "85 C0", "88 C0", "89 C0", "8A C0", "8B C0", "B0 00", "B8 00 00 00 00", "C6 C0 00", "C7 C0 00 00 00 00", "8D 00", "90",
            "99", "0F 90 C0", "0F B6 C0", "0F AF C0", "C1 E0 01", "D1 E0", "D3 E0", "F7 D0", "F7 D8", "F7 E0", "F7 F9", "FF C0", "FF C8", "FF F0", "F5",
            "F8", "F9", "FC", "FD", "FA", "FB", "A4", "AA", "F3 A4", "E6 00", "F4", "0F 20 C0", "0F 22 D0", "70 05", "0F 80 05 00 00 00"};
        for (String hex : forms) {
            Pc32 x = flat(0, hex, ECX, hex.startsWith("F3") ? 0 : 1, ESI, 0x80, EDI, 0x90);
            notDelivered(hex, x);
            has(hex, x, EIP, FLAT_CODE + lengthOf(hex));
        }
    }

    public static void main(String[] args) {
        everyPairOfBytes();
        edgesOfWords();
        everyEncoding();
        resultFlags();
        compareOnlyReads();
        incAndDec();
        pushTakesItsValueFirst();
        popGivesTheWordLast();
        pushAndPopOfEveryRegister();
        pushImmediate();
        everyCondition();
        jumpsOverTheWrap();
        callFindsItsTargetFirst();
        returns();
        testWritesNothing();
        movesOfBytes();
        leaNeedsMemory();
        signOfEax();
        bytesWithoutSign();
        signedProducts();
        fiveBitsOfTheCount();
        shiftsByNothing();
        shiftsLeft();
        shiftsRight();
        shiftsRightWithSign();
        shiftsNotAllowed();
        notAndNeg();
        productsWithoutSign();
        divisions();
        notAllowedInF7();
        flagForms();
        moveByte();
        storeByte();
        repeated();
        repeatedAndFaults();
        out();
        interruptsAtEveryVector();
        iret();
        halt();
        controlRegisters();
        pagingOnAndOff();
        eipGoesOn();
        Expect.end("FormsEdgeTest");
    }
}
