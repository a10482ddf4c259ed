// Promise 7: what each form does in a step, with paging off, and how many steps run does.
public final class InstructionTest extends Bench {
    private static void limits() {
        Pc32 x = new Pc32(16);
        int[][] limitAndDone = {{0, 0}, {-1, 0}, {Integer.MIN_VALUE, 0}, {1, 1}, {199, 199}, {200, 200}, {201, 200},
            {Integer.MAX_VALUE, 200}};
        for (int[] pair : limitAndDone) {
            x.setReg(EIP, 0);
            Expect.same("run(" + pair[0] + ")", x.run(pair[0]), pair[1]);
        }
        Pc32 halts = with("90 90 F4 90");
        Expect.same("run to HLT", halts.run(10), 3);
        has("HLT", halts, EIP, 3);
        Expect.same("no step is possible", halts.run(10), 0);
    }

    /** Every row: k, width, d, s, carry before, result, flags after among CF PF ZF SF OF. */
    private static final int[][] ALU = {
        {0, 8, 0x7F, 0x01, 1, 0x80, SF | OF}, {0, 8, 0xFF, 0x01, 0, 0x00, CF | ZF | PF}, {0, 8, 0x80, 0x80, 0, 0, CF | ZF | PF | OF},
        {0, 8, 1, 2, 1, 3, PF}, {0, 8, 1, 0, 1, 1, 0}, {0, 8, 0x40, 0x40, 0, 0x80, SF | OF}, {0, 32, 0x7FFFFFFF, 1, 0, 0x80000000, SF | OF | PF}, {0, 32, -1, 1, 0, 0, CF | ZF | PF},
        {0, 32, 0x100, 0, 0, 0x100, PF}, {0, 32, 0x80000000, 0x80000000, 0, 0, CF | ZF | PF | OF},
        {1, 8, 0x80, 0x01, 1, 0x81, SF | PF}, {1, 32, 0, 0, 1, 0, ZF | PF}, {1, 32, 0x80000000, 2, 1, 0x80000002, SF},
        {2, 8, 0xFF, 0x00, 1, 0x00, CF | ZF | PF}, {2, 8, 0x7F, 0x00, 1, 0x80, SF | OF}, {2, 8, 0xFF, 0xFF, 1, 0xFF, CF | SF | PF},
        {2, 32, -1, -1, 1, -1, CF | SF | PF}, {2, 32, 0x7FFFFFFF, 0, 1, 0x80000000, SF | OF | PF}, {2, 32, 1, 1, 0, 2, 0},
        {3, 8, 0x00, 0xFF, 1, 0x00, CF | ZF | PF}, {3, 8, 0x80, 0x00, 1, 0x7F, OF}, {3, 8, 5, 4, 1, 0, ZF | PF},
        {3, 32, 0, -1, 1, 0, CF | ZF | PF}, {3, 32, 0x80000000, 0, 1, 0x7FFFFFFF, OF | PF}, {3, 32, 0, 0, 1, -1, CF | SF | PF},
        {3, 32, -1, 0x7FFFFFFF, 1, 0x7FFFFFFF, OF | PF},
        {4, 8, 0xF0, 0x0F, 1, 0, ZF | PF}, {4, 32, -1, 0x80000001, 1, 0x80000001, SF}, {4, 8, 0xFF, 0x83, 0, 0x83, SF},
        {5, 8, 0x00, 0x01, 0, 0xFF, CF | SF | PF}, {5, 8, 0x80, 0x01, 1, 0x7F, OF}, {5, 8, 0x7F, 0xFF, 0, 0x80, CF | SF | OF},
        {5, 32, 5, 5, 1, 0, ZF | PF}, {5, 32, 0, 1, 0, -1, CF | SF | PF}, {5, 32, 0x80000000, 1, 0, 0x7FFFFFFF, OF | PF},
        {6, 8, 0xAA, 0xAA, 1, 0, ZF | PF}, {6, 32, 0x12340000, 0x80001234, 1, 0x92341234, SF},
        {7, 8, 0x10, 0x20, 0, 0xF0, CF | SF | PF}, {7, 32, 7, 7, 1, 0, ZF | PF}, {7, 32, 0x80000000, 1, 0, 0x7FFFFFFF, OF | PF},
    };

    private static void checkAlu(String form, int[] row, Pc32 x, int left) {
        boolean wide = row[1] == 32;
        int want = row[0] == 7 ? row[2] : row[5];
        Expect.same(form + " k" + row[0] + " result", wide ? left : left & 255, want);
        Expect.same(form + " k" + row[0] + " flags", x.reg(FLAGS), row[6] | 2 | IF | DF);
    }

    private static void alu() {
        for (int[] row : ALU) {
            int k = row[0], d = row[2], s = row[3];
            int wide = row[1] == 32 ? 1 : 0;
            int bytes = wide == 1 ? 4 : 1;
            int high = wide == 1 ? 0 : 0x55667700;
            int before = row[4] * CF | IF | DF | (OF + ZF + SF + PF) * (k & 1);
            String op = imm(8 * k + wide, 1);
            Pc32 x = ran(op + "D9", ECX, d | high, EBX, s | high, FLAGS, before);
            checkAlu("r/m op r", row, x, x.reg(ECX));
            if (wide == 0) Expect.same("other bits stay", x.reg(ECX) & 0xFFFFFF00, high);
            x = ran(imm(8 * k + 2 + wide, 1) + "D9", EBX, d | high, ECX, s | high, FLAGS, before);
            checkAlu("r op r/m", row, x, x.reg(EBX));
            x = ran(imm(8 * k + 4 + wide, 1) + imm(s, bytes), EAX, d | high, FLAGS, before);
            checkAlu("A op i", row, x, x.reg(EAX));
            Expect.same("length", x.reg(EIP), 1 + bytes);
            x = ran(imm(0x80 + wide, 1) + imm(0xC2 + 8 * k, 1) + imm(s, bytes), EDX, d | high, FLAGS, before);
            checkAlu("r/m op i", row, x, x.reg(EDX));
            Expect.same("length", x.reg(EIP), 2 + bytes);
            aluInMemory(row, op, before);
        }
    }

    private static void aluInMemory(int[] row, String op, int before) {
        int wide = row[1] == 32 ? 1 : 0;
        Pc32 x = with(op + "1E", ESI, 0x200, EBX, row[3], FLAGS, before);
        x.poke(0x200, 0x1122334400000000L | (row[2] & 0xFFFFFFFFL) | (wide == 1 ? 0 : 0x99AA00L), 8);
        x.run(1);
        checkAlu("[m] op r", row, x, (int) x.peek(0x200, 4));
        Expect.same("bytes above stay", x.peek(0x204, 4), 0x11223344);
        if (wide == 0) Expect.same("bytes beside stay", x.peek(0x201, 3), 0x99AA);
        if (wide == 1 && row[3] >= -128 && row[3] < 128) {
            x = ran("83" + imm(0xC7 + 8 * row[0], 1) + imm(row[3], 1), EDI, row[2], FLAGS, before);
            checkAlu("r/m op ib sx", row, x, x.reg(EDI));
            Expect.same("length", x.reg(EIP), 3);
        }
    }

    private static void byteRegisters() {
        // MOV AH,CL; MOV BH,AH; MOV DH,80h; MOV CL,BH
        Pc32 x = with("88 CC 88 E7 B6 80 8A CF", EAX, 0x11111111, ECX, 0x222222AB, EBX, 0x33333333, EDX, 0x44444444);
        x.run(4);
        has("byte registers", x, EAX, 0x1111AB11, EBX, 0x3333AB33, EDX, 0x44448044, ECX, 0x222222AB, EIP, 8);
        // byte registers 4 to 7 are not in ESP, EBP, ESI, EDI
        has("byte registers", x, ESP, 0x300, EBP, 0, ESI, 0, EDI, 0);
    }

    private static void incAndDec() {
        for (int n = 0; n < 8; n++) {
            Pc32 x = ran(imm(0x40 + n, 1), n, 0x7FFFFFFF, FLAGS, CF);
            has("INC", x, n, 0x80000000, FLAGS, 2 | CF | OF | SF | PF);
            x = ran(imm(0x48 + n, 1), n, 0, FLAGS, 0);
            has("DEC", x, n, -1, FLAGS, 2 | SF | PF);
        }
        has("INC to 0", ran("40", EAX, -1), EAX, 0, FLAGS, 2 | ZF | PF);
        has("DEC keeps CF", ran("FF C8", EAX, 0x80000000, FLAGS, CF), EAX, 0x7FFFFFFF, FLAGS, 2 | CF | OF | PF);
        Pc32 x = with("FF 06 FF 0E FF 0E", ESI, 0x100, FLAGS, CF);
        x.run(1);
        Expect.same("INC in memory", x.peek(0x100, 8), 1);
        x.run(2);
        Expect.same("DEC in memory", x.peek(0x100, 8), 0xFFFFFFFFL);
        has("DEC in memory", x, FLAGS, 2 | CF | SF | PF);
    }

    private static void pushAndPop() {
        for (int n = 0; n < 8; n++) {
            int value = n == ESP ? 0x300 : 0x01020304 * (n + 1);
            Pc32 x = ran(imm(0x50 + n, 1), n, value, FLAGS, 0xFFF);
            Expect.same("PUSH " + n, x.peek(0x2FC, 4), value);
            has("PUSH", x, ESP, 0x2FC, EIP, 1, FLAGS, 0xEC7);
            x = with(imm(0x58 + n, 1));
            x.poke(0x300, 0x12345678, 4);
            x.run(1);
            has("POP " + n, x, n, 0x12345678, EIP, 1);
            if (n != ESP) has("POP " + n, x, ESP, 0x304);
        }
        Pc32 x = with("68 78 56 34 92 6A 80 6A 7F FF 74 24 08");
        x.run(4);
        Expect.same("PUSH id", x.peek(0x2FC, 4), 0x92345678L);
        Expect.same("PUSH ib sx", x.peek(0x2F8, 4), 0xFFFFFF80L);
        Expect.same("PUSH ib", x.peek(0x2F4, 4), 0x7F);
        Expect.same("PUSH r/m is read before ESP moves", x.peek(0x2F0, 4), 0x92345678L);
        has("PUSH", x, ESP, 0x2F0, EIP, 13);
        x = ran("FF F4");
        Expect.same("PUSH r/m of ESP", x.peek(0x2FC, 4), 0x300);
    }

    private static boolean holds(int c, int f) {
        boolean cf = (f & CF) != 0, pf = (f & PF) != 0, zf = (f & ZF) != 0, sf = (f & SF) != 0, of = (f & OF) != 0;
        switch (c) {
            case 0: return of;
            case 1: return !of;
            case 2: return cf;
            case 3: return !cf;
            case 4: return zf;
            case 5: return !zf;
            case 6: return cf || zf;
            case 7: return !cf && !zf;
            case 8: return sf;
            case 9: return !sf;
            case 10: return pf;
            case 11: return !pf;
            case 12: return sf != of;
            case 13: return sf == of;
            case 14: return zf || sf != of;
            default: return !zf && sf == of;
        }
    }

    private static void conditions() {
        for (int bits = 0; bits < 32; bits++) {
            int f = (bits & 1) * CF | (bits >> 1 & 1) * PF | (bits >> 2 & 1) * ZF | (bits >> 3 & 1) * SF | (bits >> 4) * OF;
            for (int c = 0; c < 16; c++) {
                boolean met = holds(c, f);
                has("short jump " + c, ran(imm(0x70 + c, 1) + "F0", FLAGS, f), EIP, met ? 2 - 16 : 2, FLAGS, f | 2);
                has("long jump " + c, ran("0F" + imm(0x80 + c, 1) + "00 02 00 00", FLAGS, f), EIP, met ? 0x206 : 6);
                has("set " + c, ran("0F" + imm(0x90 + c, 1) + "C7", FLAGS, f, EBX, -1, EDI, -1), EDI, -1,
                    EBX, met ? 0xFFFF01FF : 0xFFFF00FF, EIP, 3);
                has("set " + c, ran("0F" + imm(0x90 + c, 1) + "FB", FLAGS, f, EBX, -1), EBX, met ? 0xFFFFFF01 : 0xFFFFFF00, FLAGS, f | 2);
            }
        }
    }

    private static void jumpsAndCalls() {
        has("EB", ran("EB 7F"), EIP, 0x81);
        has("EB back", ran("EB 80"), EIP, 2 - 128);
        has("E9", ran("E9 FB FF FF FF"), EIP, 0);
        has("FF /4", ran("FF E1", ECX, 0x12345678), EIP, 0x12345678, ESP, 0x300);
        Pc32 x = with("FF 26", ESI, 0x80);
        x.poke(0x80, 0x90ABCDEFL, 4);
        x.run(1);
        has("FF /4 in memory", x, EIP, 0x90ABCDEF);
        x = ran("E8 10 00 00 00");
        has("CALL", x, EIP, 0x15, ESP, 0x2FC);
        Expect.same("return address", x.peek(0x2FC, 4), 5);
        x = with("C3");
        x.poke(0x300, 0x44332211, 4);
        x.run(1);
        has("RET", x, EIP, 0x44332211, ESP, 0x304);
        x = with("FF 54 24 FC", ESP, 0x200);
        x.poke(0x1FC, 0x77, 4);
        x.run(1);
        has("CALL finds its target before it pushes", x, EIP, 0x77, ESP, 0x1FC);
        Expect.same("return address", x.peek(0x1FC, 4), 4);
        has("CALL ESP", ran("FF D4"), EIP, 0x300, ESP, 0x2FC);
    }

    private static void moves() {
        has("MOV r32, r/m32", ran("8B D9", ECX, -5), EBX, -5);
        has("MOV r/m32, r32", ran("89 D9", EBX, 77, FLAGS, 0xFFF), ECX, 77, FLAGS, 0xEC7);
        for (int n = 0; n < 8; n++) has("MOV r, id", ran(imm(0xB8 + n, 1) + "01 02 03 84"), n, 0x84030201, EIP, 5);
        for (int n = 0; n < 8; n++) {
            int value = n < 4 ? 0x112233FE : 0x1122FE44;
            has("MOV r8, ib", ran(imm(0xB0 + n, 1) + "FE", n & 3, 0x11223344), n & 3, value, EIP, 2);
        }
        has("C6 /0", ran("C6 C4 80", EAX, 0x11223344), EAX, 0x11228044, EIP, 3);
        has("C7 /0", ran("C7 C4 01 02 03 04"), ESP, 0x04030201, EIP, 6);
        Pc32 x = with("C7 05 00 02 00 00 44 33 22 11 C6 05 01 02 00 00 99 8A 25 03 02 00 00 8B 0D 00 02 00 00");
        x.run(4);
        Expect.same("MOV to memory", x.peek(0x200, 8), 0x11229944);
        has("MOV from memory", x, EAX, 0x1100, ECX, 0x11229944, EIP, 29);
        has("MOVZX", ran("0F B6 C7", EBX, 0xFFFF89FF, EAX, -1), EAX, 0x89);
        has("99 of a negative number", ran("99", EAX, 0x80000000), EDX, -1, EAX, 0x80000000);
        has("99 of another", ran("99", EAX, 0x7FFFFFFF, EDX, 5), EDX, 0);
        has("90", ran("90", EAX, 5, FLAGS, 0xFFF), EAX, 5, EIP, 1, FLAGS, 0xEC7);
        has("TEST r/m8", ran("84 D9", ECX, 0x180, EBX, 0x180, FLAGS, CF | OF | DF), ECX, 0x180, FLAGS, 2 | SF | DF);
        has("TEST r/m32", ran("85 D9", ECX, 0x180, EBX, 0x2000, FLAGS, CF | OF), ECX, 0x180, FLAGS, 2 | ZF | PF);
    }

    private static void addresses() {
        int[] set = {EAX, 0x10, ECX, 0x200, EDX, 0x3000, EBX, 0x40000, ESP, 0x500000, EBP, 0x6000000, ESI, 0x70000000, EDI, -1};
        String[][] rows = {
            {"8D 00", "10"}, {"8D 07", "FFFFFFFF"}, {"8D 05 01 02 03 04", "4030201"}, {"8D 45 80", "5FFFF80"}, {"8D 47 01", "0"},
            {"8D 81 FF FF FF FF", "1FF"}, {"8D 85 04 00 00 00", "6000004"},
            {"8D 04 24", "500000"}, {"8D 04 64", "500000"}, {"8D 04 E4", "500000"}, {"8D 04 08", "210"}, {"8D 04 48", "410"},
            {"8D 04 88", "810"}, {"8D 04 C8", "1010"}, {"8D 04 CD 02 00 00 00", "1002"}, {"8D 04 25 09 00 00 00", "9"},
            {"8D 44 4D 7F", "600047F"}, {"8D 84 0D 00 00 00 80", "86000200"}, {"8D 44 24 FC", "4FFFFC"}, {"8D 04 F9", "1F8"},
            {"8D 04 B6", "30000000"}, {"8D 84 25 01 00 00 00", "6000001"}};
        for (String[] row : rows) {
            Pc32 x = ran(row[0], set);
            has(row[0], x, EAX, Integer.parseUnsignedInt(row[1], 16), EIP, row[0].replace(" ", "").length() / 2);
        }
    }

    private static void operandsInMemory() {
        String[] modes = {"06", "46 10", "86 00 01 00 00", "04 1E", "44 5E 10", "84 5E 00 01 00 00", "05 00 02 00 00"};
        int[] places = {0x200, 0x210, 0x300, 0x240, 0x290, 0x380, 0x200};
        for (int i = 0; i < modes.length; i++) {
            int at = places[i];
            Pc32 x = with("8B" + modes[i], ESI, 0x200, EBX, 0x40);
            x.poke(at, 0x87654321L, 4);
            x.run(1);
            has("MOV from " + modes[i], x, EAX, 0x87654321, EIP, 1 + modes[i].replace(" ", "").length() / 2);
            x = with("01" + modes[i], ESI, 0x200, EBX, 0x40, EAX, 0x01010101);
            x.poke(at, 0x87654321L, 4);
            x.run(1);
            Expect.same("ADD to " + modes[i], x.peek(at, 4), 0x88664422L);
            has("ADD to " + modes[i], x, EAX, 0x01010101);
            x = with("0F B6" + modes[i], ESI, 0x200, EBX, 0x40, EAX, -1);
            x.poke(at, 0x87654399L, 4);
            x.run(1);
            has("MOVZX from " + modes[i], x, EAX, 0x99);
            x = with("0F 94" + modes[i], ESI, 0x200, EBX, 0x40, FLAGS, ZF);
            x.poke(at, 0x87654321L, 4);
            x.run(1);
            Expect.same("set to " + modes[i], x.peek(at, 4), 0x87654301L);
            x = with("0F AF" + modes[i], ESI, 0x200, EBX, 0x40, EAX, 3);
            x.poke(at, 0xFFFFFFFEL, 4);
            x.run(1);
            has("IMUL by " + modes[i], x, EAX, -6);
        }
    }

    private static void products() {
        has("IMUL", ran("0F AF C1", EAX, -3, ECX, 7), EAX, -21, FLAGS, 2 | SF | PF);
        has("IMUL too long", ran("0F AF C1", EAX, 0x10000, ECX, 0x10000), EAX, 0, FLAGS, 2 | CF | OF | ZF | PF);
        has("IMUL at the edge", ran("0F AF C1", EAX, 0x8000, ECX, -0x10000), EAX, 0x80000000, FLAGS, 2 | SF | PF);
        has("IMUL past the edge", ran("0F AF C1", EAX, -0x8000, ECX, -0x10000), EAX, 0x80000000, FLAGS, 2 | CF | OF | SF | PF);
        has("MUL", ran("F7 E1", EAX, -1, ECX, -1), EAX, 1, EDX, -2, FLAGS, 2 | CF | OF);
        has("MUL short", ran("F7 E1", EAX, 0x10000, ECX, 0x8000, EDX, 9, FLAGS, CF | OF), EAX, 0x80000000, EDX, 0, FLAGS, 2 | SF | PF);
        has("MUL by EDX", ran("F7 E2", EAX, 6, EDX, 7), EAX, 42, EDX, 0, FLAGS, 2);
        has("NOT", ran("F7 D1", ECX, 0x0F0F0F0F, FLAGS, 0xFFF), ECX, 0xF0F0F0F0, FLAGS, 0xEC7);
        has("NEG", ran("F7 D9", ECX, 1), ECX, -1, FLAGS, 2 | CF | SF | PF);
        has("NEG of 0", ran("F7 D9", ECX, 0, FLAGS, CF), ECX, 0, FLAGS, 2 | ZF | PF);
        has("NEG of the least", ran("F7 D9", ECX, 0x80000000), ECX, 0x80000000, FLAGS, 2 | CF | OF | SF | PF);
        has("IDIV", ran("F7 F9", EAX, 7, EDX, 0, ECX, -2, FLAGS, 0xFFF), EAX, -3, EDX, 1, FLAGS, 0xEC7);
        has("IDIV of a negative number", ran("F7 F9", EAX, -7, EDX, -1, ECX, 2), EAX, -3, EDX, -1);
        has("IDIV to the least", ran("F7 F9", EAX, 0, EDX, 0x40000000, ECX, 0x80000000), EAX, 0x80000000, EDX, 0);
        has("IDIV of 64 bits", ran("F7 F9", EAX, 5, EDX, 1, ECX, 16), EAX, 0x10000000, EDX, 5);
    }

    private static void divisionFaults() {
        int[][] rows = {{1, 0, 0}, {0x80000000, -1, -1}, {0, 1, 1}, {0, 0x80000000, -1}, {0, 0x80000000, 1}, {0x80000000, 0, 1},
            {0, 0x40000000, 0x7FFFFFFF}};
        for (int[] row : rows) {
            Pc32 x = with("F7 F9", EAX, row[0], EDX, row[1], ECX, row[2], 13, 0x100, FLAGS, CF | IF);
            x.poke(0x100, 0x180, 2);
            Expect.same("IDIV", x.run(1), 1);
            has("fault 0", x, EAX, row[0], EDX, row[1], ECX, row[2], EIP, 0x180, 17, 1, 18, 0, 19, -1, ESP, 0x300 - 12, FLAGS, 2 | CF);
            Expect.same("return address", x.peek(0x300 - 12, 4), 0);
            Expect.same("flags word", x.peek(0x300 - 8, 4), 2 | CF | IF);
            Expect.same("ESP", x.peek(0x300 - 4, 4), 0x300);
        }
    }

    private static void shifts() {
        has("SHL 1", ran("D1 E1", ECX, 0xC0000001), ECX, 0x80000002, FLAGS, 2 | CF | SF);
        has("SHL 1 to OF", ran("D1 E1", ECX, 0x40000000), ECX, 0x80000000, FLAGS, 2 | SF | OF | PF);
        has("SHL 31", ran("C1 E1 1F", ECX, 3), ECX, 0x80000000, FLAGS, 2 | CF | SF | PF);
        has("SHL 2", ran("C1 E1 02", ECX, 0x40000000), ECX, 0, FLAGS, 2 | CF | OF | ZF | PF);
        has("SHL 32 is 0", ran("C1 E1 20", ECX, 3, FLAGS, 0xFFF), ECX, 3, FLAGS, 0xEC7, EIP, 3);
        has("SHL 33 is 1", ran("C1 E1 21", ECX, 3), ECX, 6, FLAGS, 2 | PF);
        has("SHR 1", ran("D1 E9", ECX, 0x80000003), ECX, 0x40000001, FLAGS, 2 | CF | OF);
        has("SHR 31", ran("C1 E9 1F", ECX, 0xC0000000), ECX, 1, FLAGS, 2 | CF | OF);
        has("SAR 1", ran("D1 F9", ECX, 0x80000003, FLAGS, OF), ECX, 0xC0000001, FLAGS, 2 | CF | SF);
        has("SAR 31", ran("C1 F9 1F", ECX, 0x80000000), ECX, -1, FLAGS, 2 | SF | PF);
        has("SHR CL", ran("D3 E8", EAX, 0x100, ECX, 0xFFFFFF08), EAX, 1, FLAGS, 2, ECX, 0xFFFFFF08);
        has("SHR CL uses 5 bits", ran("D3 E8", EAX, 0x100, ECX, 0x28), EAX, 1, FLAGS, 2);
        has("SHR CL 0", ran("D3 E8", EAX, 0x100, ECX, 0x120, FLAGS, CF | SF), EAX, 0x100, FLAGS, 2 | CF | SF);
        has("SHL ECX, CL", ran("D3 E1", ECX, 2), ECX, 8, FLAGS, 2, EIP, 2);
        has("SHR of 0", ran("D1 E9", ECX, 0), ECX, 0, FLAGS, 2 | ZF | PF, EIP, 2);
        has("SHR of 1", ran("C1 E9 01", ECX, 1), ECX, 0, FLAGS, 2 | CF | ZF | PF, EIP, 3);
    }

    private static void flagForms() {
        has("F5", ran("F5", FLAGS, 0xFFF), FLAGS, 0xEC6);
        has("F5", ran("F5"), FLAGS, 3);
        has("F8", ran("F8", FLAGS, 0xFFF), FLAGS, 0xEC6);
        has("F9", ran("F9"), FLAGS, 3);
        has("FC", ran("FC", FLAGS, 0xFFF), FLAGS, 0xEC7 & ~DF);
        has("FD", ran("FD"), FLAGS, 2 | DF);
        has("FA", ran("FA", FLAGS, 0xFFF), FLAGS, 0xEC7 & ~IF);
        has("FB", ran("FB"), FLAGS, 2 | IF);
    }

    private static void strings() {
        Pc32 x = with("A4 FD AA", ESI, 0x100, EDI, 0x200, EAX, 0x123456AB);
        x.poke(0x100, 0x77, 1);
        x.run(1);
        Expect.same("MOVSB", x.peek(0x200, 2), 0x77);
        has("MOVSB", x, ESI, 0x101, EDI, 0x201, ECX, 0, EIP, 1);
        x.run(2);
        Expect.same("STOSB", x.peek(0x200, 2), 0xAB77);
        has("STOSB down", x, ESI, 0x101, EDI, 0x200, EIP, 3);
        x = with("F3 A4", ESI, 0x100, EDI, 0x101, ECX, 3);
        x.poke(0x100, 0x55, 1);
        x.run(1);
        has("F3 A4, first byte", x, ECX, 2, EIP, 0, ESI, 0x101, EDI, 0x102);
        x.run(1);
        has("F3 A4, second byte", x, ECX, 1, EIP, 0);
        x.run(1);
        has("F3 A4, last byte", x, ECX, 0, EIP, 2, ESI, 0x103, EDI, 0x104, FLAGS, 2);
        Expect.same("bytes", x.peek(0x100, 5), 0x55555555);
        has("F3 A4 with ECX 0", ran("F3 A4", ESI, 9, EDI, 8), ECX, 0, ESI, 9, EDI, 8, EIP, 2);
        has("F3 AA with ECX 0", ran("F3 AA", EDI, 8), ECX, 0, EDI, 8, EIP, 2);
        has("ECX counts without sign", ran("F3 AA", EDI, 0x200, ECX, 0x80000000, FLAGS, DF), ECX, 0x7FFFFFFF, EDI, 0x1FF, EIP, 0);
        x = with("F3 AA", EDI, 0x200, ECX, 250, EAX, 1);
        Expect.same("every byte is a step", x.run(200), 200);
        has("every byte is a step", x, ECX, 50, EDI, 0x2C8, EIP, 0);
    }

    private static void control() {
        int[] numbers = {0, 2, 3, 4, 5};
        int[] masks = {0, -1, 0x3F0, 0x3FE, -1};
        for (int i = 0; i < 5; i++) {
            String modRm = imm(0xC1 + 8 * numbers[i], 1);
            Pc32 x = with("0F 22" + modRm + "0F 20" + imm(0xC3 + 8 * numbers[i], 1), ECX, 0x7FFFFFFF, EBX, 5);
            x.run(2);
            has("CR" + numbers[i], x, 10 + i, masks[i] & 0x7FFFFFFF, EBX, masks[i] & 0x7FFFFFFF, EIP, 6);
        }
        Pc32 x = ran("0F 22 C1", ECX, 0x80000001);
        has("CR0", x, 10, 0x80000000);
        x = ran("E6 80", EAX, 0x1234);
        Expect.same("OUT", x.portWrite(0), 0x8034);
        Expect.same("OUT", x.portWrites(), 1);
        has("OUT", x, EIP, 2);
    }

    private static void memoryEdges() {
        Pc32 x = with("8B 05 FE 03 00 00");
        x.poke(0x3FE, 0x1122, 2);
        x.run(1);
        has("bytes past the end read as 255", x, EAX, 0xFFFF1122);
        x = with("89 05 FE 03 00 00", EAX, 0x55667788);
        x.run(1);
        Expect.same("bytes past the end are lost", x.peek(0x3FE, 2), 0x7788);
        Expect.same("and do not come round", x.peek(0, 2), 0x0589);
        x = with("89 05 FE FF FF FF", EAX, 0x55667788);
        x.run(1);
        Expect.same("addresses wrap at 2^32", x.peek(0, 2), 0x5566);
        Pc32 small = new Pc32(4);
        Expect.load(small, 0, "FF 05 00 01 00 00 A0");
        small.run(1);
        Expect.same("no memory at 256 with 4 frames", small.translate(256, 0), -2);
        Expect.same("INC of 255s", small.reg(FLAGS), 2 | ZF | PF);
        small = new Pc32(4);
        small.setReg(EIP, 0x100);
        small.setReg(13, 0x80);
        small.poke(0x80 + 12, 0x50, 2);
        small.setReg(ESP, 0x100);
        small.run(1);
        has("FF FF is no form", small, 18, 6, 19, -1, EIP, 0x50);
        small = new Pc32(4);
        small.setReg(EIP, -1);
        small.poke(0, 0xC0, 1);
        small.run(1);
        has("the instruction FF C0 across the wrap", small, EAX, 1, EIP, 1);
    }

    private static void unknownForms() {
        String known = "40 48 50 58 68 6A 70 80 81 83 84 85 88 89 8A 8B 8D 90 99 A4 AA B0 B8 C1 C3 C6 C7 CC CD CF D1 D3 E6 E8 E9 EB F4 F5 F7"
            + " F8 F9 FA FB FC FD FF";
        for (int op = 0; op < 256; op++) {
            boolean row = op < 0x40 && op % 8 < 6;
            boolean ranges = (op >= 0x40 && op < 0x60) || (op >= 0x70 && op < 0x80) || (op >= 0xB0 && op < 0xC0);
            if (row || ranges || known.contains(imm(op, 1)) || op == 0x0F || op == 0xF3) continue;
            invalid(imm(op, 1));
        }
        for (int op = 0; op < 256; op++) {
            boolean form = (op >= 0x80 && op < 0xA0) || op == 0x20 || op == 0x22 || op == 0xAF || op == 0xB6;
            if (!form) invalid("0F" + imm(op, 1));
            if (op != 0xA4 && op != 0xAA) invalid("F3" + imm(op, 1));
        }
        for (int modRm = 0; modRm < 256; modRm++) {
            int reg = modRm / 8 % 8;
            String m = imm(modRm, 1);
            if ("01246".indexOf('0' + reg) < 0) invalid("FF" + m);
            if ("2347".indexOf('0' + reg) < 0) invalid("F7" + m);
            if ("457".indexOf('0' + reg) < 0) for (String op : new String[] {"C1", "D1", "D3"}) invalid(op + m);
            if (reg != 0) for (String op : new String[] {"C6", "C7"}) invalid(op + m);
            if (modRm >= 0xC0) invalid("8D" + m);
            if (modRm < 0xC0 || "02345".indexOf('0' + reg) < 0) for (String op : new String[] {"0F20", "0F22"}) invalid(op + m);
        }
    }

    /** The bytes stand at the end of the page that is mapped: reading one more would be fault 14, not 6. */
    private static void invalid(String hex) {
        for (int cpl = 0; cpl <= 3; cpl += 3) {
            Pc32 x = new Pc32(16);
            int at = 0x40 - hex.length() / 2;
            Expect.load(x, 0x140 + at, hex);
            x.poke(0x200, 0x217, 2);
            x.poke(0x210, 0x107, 2);
            x.poke(0x210 + 10, 0x147, 2);
            x.poke(12, 0x20, 2);
            int code = 5 * 64 + at;
            x.setReg(12, 0x200);
            x.setReg(ESP, 0x40);
            x.setReg(14, 0x40);
            x.setReg(EIP, code);
            x.setReg(15, cpl);
            x.setReg(10, -1);
            x.run(1);
            has(hex + " is no form", x, 17, 1, 18, 6, 19, -1, EIP, 0x20, 11, 0, ESP, 0x40 - 12, 15, 0);
            Expect.same(hex + " return address", x.peek(0x100 + 0x40 - 12, 4), code);
        }
    }

    public static void main(String[] args) {
        limits();
        alu();
        byteRegisters();
        incAndDec();
        pushAndPop();
        conditions();
        jumpsAndCalls();
        moves();
        addresses();
        operandsInMemory();
        products();
        divisionFaults();
        shifts();
        flagForms();
        strings();
        control();
        memoryEdges();
        unknownForms();
        Expect.end("InstructionTest");
    }
}
