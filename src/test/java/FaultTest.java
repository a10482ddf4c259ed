// Promises 7, 11 and 13: translation, page faults, privilege, delivery, double faults, shutdown and interrupts.
public final class FaultTest extends Bench {
    // ---- translation ----

    private static void translateWithoutPaging() {
        Pc32 x = new Pc32(4);
        for (int kind = -1; kind < 5; kind++) {
            Expect.same("0", x.translate(0, kind), 0);
            Expect.same("255", x.translate(255, kind), 255);
            Expect.same("256", x.translate(256, kind), -2);
            Expect.same("-1", x.translate(-1, kind), -2);
            Expect.same("least", x.translate(Integer.MIN_VALUE, kind), -2);
        }
    }

    private static void translateWithPaging() {
        Pc32 x = paged(0, "90");
        int[][] rightsAndAnswers = {{7, 1, 1, 1, 1}, {5, 1, 0, 1, 0}, {3, 1, 1, 0, 0}, {1, 1, 0, 0, 0}, {6, 0, 0, 0, 0}};
        for (int[] row : rightsAndAnswers) {
            for (int kind = 0; kind < 4; kind++) {
                int want = row[kind + 1] == 1 ? 0x3C5 : -1;
                page(x, 5, 0x3C0 | row[0]);
                Expect.same("T rights " + row[0] + " kind " + kind, x.translate(5 * 64 + 5, kind), want);
                page(x, 5, 0x3C7);
                x.poke(DIRECTORY, TABLE | row[0], 2);
                Expect.same("D rights " + row[0] + " kind " + kind, x.translate(5 * 64 + 5, kind), want);
                Expect.same("other bits of kind", x.translate(5 * 64 + 5, kind - 8), want);
                x.poke(DIRECTORY, TABLE | 7, 2);
            }
        }
        Expect.same("translate changes no T", page(x, 5), 0x3C7);
        Expect.same("translate changes no D", x.peek(DIRECTORY, 2), TABLE | 7);
        has("translate changes no register", x, CR2, 0);
        page(x, 5, 0xFC07 | 0x3C0);
        Expect.same("high bits of T are passed over", x.translate(5 * 64 + 63, 3), 0x3FF);
        x.poke(DIRECTORY, 0xFC07 | TABLE, 2);
        Expect.same("high bits of D are passed over", x.translate(5 * 64 + 63, 3), 0x3FF);
        Expect.same("above 4096", x.translate(0x1000 + 5 * 64, 0), -1);
        Expect.same("below 0", x.translate(-1, 0), -1);
        Expect.same("D absent", x.translate(0x200 + 5 * 64, 0), -1);
        x.poke(DIRECTORY + 14, TABLE | 7, 2);
        Expect.same("last D, last T absent", x.translate(0xFFF, 0), -1);
        page(x, 7, 7);
        Expect.same("last D, last T", x.translate(0xFFF, 3), 63);
    }

    private static void tablesPastTheEnd() {
        Pc32 x = new Pc32(4);
        x.setReg(CR0, -1);
        x.setReg(CR3, 0x3F0);
        Expect.same("D past the end counts as 0", x.translate(0, 0), -1);
        x.setReg(CR3, 0x10);
        x.poke(0x10, 0x107, 2);
        Expect.same("T past the end counts as 0", x.translate(0, 0), -1);
        x.poke(0x10, 0xF7, 2);
        x.poke(0xF0, 0x107, 2);
        Expect.same("frame past the end", x.translate(5, 0), -2);
        x.poke(0xFE, 0xC7, 2);
        Expect.same("last half word of memory", x.translate(7 * 64 + 5, 0), 0xC5);
        x.setReg(ESI, 4);
        x.poke(0xC0, 0x068B, 2);
        x.setReg(EIP, 7 * 64);
        Expect.same("run", x.run(1), 1);
        has("a frame past the end reads as 255", x, EAX, -1, EIP, 7 * 64 + 2);
        Expect.same("and its T is marked", x.peek(0xF0, 2), 0x10F);
    }

    // ---- page faults ----

    private static void pageFaultErrors() {
        // MOV EAX,[ESI] and MOV [ESI],EAX
        String[] forms = {"8B 06", "89 06"};
        for (int cpl = 0; cpl <= 3; cpl += 3) {
            for (int write = 0; write < 2; write++) {
                int error = 2 * write + (cpl == 3 ? 4 : 0);
                Pc32 x = paged(cpl, forms[write], ESI, FREE + 9, FLAGS, IF | CF, EAX, 55);
                delivered("absent", x, 14, error);
                has("absent", x, CR2, FREE + 9, EAX, 55, ESI, FREE + 9, FLAGS, 2 | CF, ESP, STACK_END - 16);
                pushed("absent", x, STACK_END, (cpl << 12) | IF | CF | 2, CODE, error);
                x = paged(cpl, forms[write], ESI, 0x12345678);
                delivered("above 4096", x, 14, error);
                has("above 4096", x, CR2, 0x12345678);
                x = paged(cpl, forms[write], ESI, DATA);
                page(x, 1, 0xC0 | 5);
                if (write == 1) delivered("read only", x, 14, error + 1);
                else x.run(1);
                Expect.same("read only", page(x, 1), write == 1 ? 0xC5 : 0xCD);
                x = paged(cpl, forms[write], ESI, DATA);
                page(x, 1, 0xC0 | 3);
                if (cpl == 3) delivered("supervisor", x, 14, error + 1);
                else x.run(1);
                Expect.same("supervisor", page(x, 1), cpl == 3 ? 0xC3 : write == 1 ? 0xDB : 0xCB);
            }
        }
    }

    private static void marks() {
        String[][] rows = {{"8B 06", "CF"}, {"89 06", "DF"}, {"01 06", "DF"}, {"39 06", "CF"}, {"38 06", "CF"}, {"03 06", "CF"},
            {"80 3E 05", "CF"}, {"81 3E 05 00 00 00", "CF"}, {"83 3E 05", "CF"}, {"83 06 05", "DF"}, {"85 06", "CF"}, {"84 06", "CF"},
            {"D1 26", "DF"}, {"C1 26 00", "DF"}, {"D3 2E", "DF"}, {"F7 16", "DF"}, {"F7 1E", "DF"}, {"F7 26", "CF"}, {"FF 06", "DF"},
            {"FF 0E", "DF"}, {"FF 26", "CF"}, {"FF 16", "CF"}, {"FF 36", "CF"}, {"0F 94 06", "DF"}, {"0F B6 06", "CF"},
            {"0F AF 06", "CF"}, {"C6 06 01", "DF"}, {"C7 06 01 00 00 00", "DF"}, {"8D 06", "C7"}, {"88 06", "DF"}, {"8A 06", "CF"},
            {"A4", "CF"}, {"F3 A4", "C7"}, {"F7 3E", "CF"}};
        for (String[] row : rows) {
            Pc32 x = paged(3, row[0], ESI, DATA, EDI, NEXT_DATA, EAX, 5);
            x.poke(0xC0, 1, 4);
            Expect.same(row[0], x.run(1), 1);
            has(row[0] + " no fault", x, DELIVERIES, 0);
            Expect.same(row[0] + " marks T", page(x, 1), Integer.parseInt(row[1], 16));
            Expect.same(row[0] + " marks D", x.peek(DIRECTORY, 2), TABLE | 15);
            Expect.same("the code's T", page(x, 0), 0x8F);
        }
    }

    private static void readOnlyPages() {
        // Forms that write nothing may read a page that may not be written; a shift by 0 may not.
        String[] readers = {"39 06", "38 06", "3B 06", "80 3E 05", "83 3E 05", "85 06", "F7 26", "FF 26"};
        for (String hex : readers) {
            Pc32 x = paged(0, hex, ESI, DATA);
            page(x, 1, 0xC5);
            x.run(1);
            has(hex, x, DELIVERIES, 0);
        }
        String[] writers = {"01 06", "C1 26 00", "D3 26", "F7 16", "F7 1E", "FF 06", "88 06", "0F 90 06", "C6 06 00", "83 26 FF"};
        for (String hex : writers) {
            Pc32 x = paged(0, hex, ESI, DATA, FLAGS, 0xFFF & ~IF);
            page(x, 1, 0xC5);
            delivered(hex, x, 14, 3);
            has(hex, x, CR2, DATA, FLAGS, 0xCC7);
            Expect.same("no mark", page(x, 1), 0xC5);
        }
    }

    private static void sameHalfWord() {
        // D at 200h points to the table 200h, so it is its own T for page 0. The mark 16 moves that table to 210h.
        Pc32 x = new Pc32(16);
        x.poke(0x200, 0x207, 2);
        x.poke(0x202, 0x87, 2);
        x.poke(0x212, 0x87, 2);
        Expect.load(x, 0x80, "88 05 04 00 00 00 90");
        x.setReg(CR3, 0x200);
        x.setReg(CR0, -1);
        x.setReg(EIP, 64);
        x.setReg(EAX, 0x11223344);
        x.run(1);
        has("D is T", x, DELIVERIES, 0, EIP, 70);
        Expect.same("both marks in one half word", x.peek(0x200, 2), 0x21F);
        Expect.same("written through it", x.peek(0x204, 4), 0x44);
        x.run(1);
        has("the moved table", x, DELIVERIES, 0, EIP, 71);
        Expect.same("the moved table's mark", x.peek(0x212, 2), 0x8F);
    }

    private static void accessAcrossPages() {
        Pc32 x = paged(0, "89 06", ESI, NEXT_DATA - 2, EAX, 0x44332211);
        x.run(1);
        Expect.same("first page", x.peek(0xFE, 2), 0x2211);
        Expect.same("second page", x.peek(0x100, 2), 0x4433);
        x = paged(0, "89 06", ESI, NEXT_DATA - 2, EAX, 0x44332211);
        page(x, 2, 0x100 | 5);
        delivered("write to second page", x, 14, 3);
        has("CR2 is the byte that faults", x, CR2, NEXT_DATA);
        Expect.same("nothing is written", x.peek(0xFE, 2), 0);
        Expect.same("the first page's mark stays", page(x, 1), 0xDF);
        Expect.same("the second has none", page(x, 2), 0x105);
        x = paged(0, "8B 06", ESI, 0xFFF);
        x.poke(DIRECTORY + 14, TABLE | 7, 2);
        page(x, 7, 0xC7);
        delivered("read past 4095", x, 14, 0);
        has("CR2", x, CR2, 0x1000);
        x = paged(0, "8B 06", ESI, -2);
        delivered("read at -2", x, 14, 0);
        has("CR2", x, CR2, -2);
    }

    private static void tableOverwritten() {
        // MOV [EBX],EAX on the page table itself counts from the next translation on: the word goes whole.
        Pc32 x = paged(0, "89 03 8B 06", EBX, FREE + 0x10, EAX, 0x000700C5, ESI, DATA);
        page(x, 4, 0x200 | 7);
        x.run(1);
        Expect.same("T was overwritten", x.peek(TABLE, 4), 0x000700C5);
        page(x, 0, 0x87);
        x.setReg(CR4, 0);
        x.run(1);
        has("the next translation goes through it", x, EAX, (int) x.peek(0, 4), DELIVERIES, 0);
        // ADD [EBX],AL on its own T: read after the marks, written over them.
        x = paged(0, "00 03", EBX, FREE + 0x18, EAX, 1);
        page(x, 4, 0x200 | 7);
        x.run(1);
        Expect.same("read after the marks", page(x, 4), 0x220);
    }

    private static void fetchAcrossPages() {
        // MOV EAX,id with three of its bytes on the next page.
        Pc32 x = paged(0, "90", EIP, 62);
        x.poke(0x80 + 62, 0x11B8, 2);
        x.poke(0xC0, 0x443322, 3);
        x.run(1);
        has("fetch across pages", x, EAX, 0x44332211, EIP, 67);
        x = paged(3, "90", EIP, 62, EAX, 7);
        x.poke(0x80 + 62, 0x11B8, 2);
        page(x, 1, 0);
        delivered("fetch fault", x, 14, 4);
        has("fetch fault", x, CR2, 64, EAX, 7);
        pushed("fetch fault", x, STACK_END, 0x3002, 62, 4);
        x = paged(3, "90", EIP, 62);
        page(x, 0, 0x83);
        delivered("fetch from a supervisor page", x, 14, 5);
        has("fetch", x, CR2, 62);
        Expect.same("no mark", page(x, 0), 0x83);
        x = paged(3, "90", EIP, 0x87654321);
        delivered("fetch far away", x, 14, 4);
        has("fetch", x, CR2, 0x87654321);
    }

    /** Every byte of an instruction in turn is the first on an absent page; the last time none is. */
    private static void fetchesAsFarAsNeeded() {
        String[] forms = {"90", "05 01 00 00 00", "04 01", "6A 01", "68 01 00 00 00", "EB 00", "E9 00 00 00 00", "B0 01", "B8 01 00 00 00",
            "80 C0 01", "81 C0 01 00 00 00", "83 C0 01", "C1 E0 01", "D1 E0", "D3 E0", "F7 D0", "F7 14 35 40 00 00 00", "FF C0", "FF E0",
            "FF 04 24", "FF 44 24 FC", "FF 84 24 F0 FF FF FF", "FF 05 D0 00 00 00", "C6 C0 01", "C7 C0 01 00 00 00", "8D 04 24",
            "8D 44 24 01", "0F 84 00 00 00 00", "0F 94 C0", "0F AF C1", "0F B6 C1", "F3 A4", "F3 AA", "81 44 24 FC 01 00 00 00",
            "C7 84 24 F0 FF FF FF 01 00 00 00", "01 C8", "85 C8", "74 00", "E8 00 00 00 00"};
        for (String hex : forms) {
            int length = hex.replace(" ", "").length() / 2;
            for (int kept = 1; kept <= length; kept++) {
                Pc32 x = paged(3, "", EIP, 64 - kept, ESP, STACK_END - 16, ESI, 128, EDI, 128);
                String here = hex.replace(" ", "").substring(0, 2 * kept);
                Expect.load(x, 0xC0 - kept, here);
                page(x, 1, 0);
                if (kept == length) {
                    x.run(1);
                    has(hex + " to the page's end", x, DELIVERIES, 0, CR2, 0);
                } else {
                    delivered(hex + " after " + kept, x, 14, 4);
                    has(hex + " after " + kept, x, CR2, 64);
                    pushed(hex, x, STACK_END - 16, 0x3002, 64 - kept, 4);
                }
            }
        }
        String[] privileged = {"E6 05", "0F 20 C0", "0F 22 D8"};
        for (String hex : privileged) {
            int length = hex.replace(" ", "").length() / 2;
            for (int kept = 1; kept <= length; kept++) {
                Pc32 x = paged(3, "", EIP, 64 - kept);
                Expect.load(x, 0xC0 - kept, hex.replace(" ", "").substring(0, 2 * kept));
                page(x, 1, 0);
                delivered(hex + " after " + kept, x, kept == length ? 13 : 14, kept == length ? 0 : 4);
            }
        }
    }

    private static void bytesAtThePageEnd() {
        String[] forms = {"8A 06", "88 06", "00 06", "38 06", "84 06", "80 06 01", "80 3E 01", "C6 06 01", "0F B6 06", "0F 95 06"};
        for (String hex : forms) {
            Pc32 x = paged(3, hex, ESI, DATA + 63, EAX, 1);
            page(x, 2, 0);
            x.run(1);
            has(hex + " takes one byte", x, DELIVERIES, 0, CR2, 0);
        }
        Pc32 x = paged(3, "A4", ESI, DATA + 63, EDI, STACK_END - 1);
        page(x, 2, 0);
        x.poke(0xFF, 0x5A, 1);
        x.run(1);
        has("MOVSB takes one byte", x, DELIVERIES, 0, ESI, DATA + 64, EDI, STACK_END);
        Expect.same("MOVSB", x.peek(0x17F, 1), 0x5A);
        x = paged(3, "AA", EDI, STACK_END - 1, EAX, 0x1234);
        x.run(1);
        has("STOSB takes one byte", x, DELIVERIES, 0, EDI, STACK_END);
        Expect.same("STOSB", x.peek(0x17F, 1), 0x34);
    }

    private static void stackFaults() {
        String[] pushes = {"50", "68 01 00 00 00", "6A 01", "E8 00 00 00 00", "FF F0", "FF D0"};
        for (String hex : pushes) {
            Pc32 x = paged(3, hex, ESP, FREE + 6, EAX, 3);
            delivered(hex, x, 14, 6);
            has(hex, x, CR2, FREE + 2);
            pushed(hex, x, FREE + 6, 0x3002, CODE, 6);
        }
        String[] pops = {"58", "C3", "5C"};
        for (String hex : pops) {
            Pc32 x = paged(3, hex, ESP, STACK_END - 2, EAX, 3);
            delivered(hex, x, 14, 4);
            has(hex, x, CR2, STACK_END, EAX, 3);
            pushed(hex, x, STACK_END - 2, 0x3002, CODE, 4);
        }
        Pc32 x = paged(0, "CF", ESP, STACK_END - 8, FLAGS, CF);
        Expect.same("IRET whose third word is absent", x.run(1), 1);
        has("IRET", x, VECTOR, 14, ERROR, 0, CR2, STACK_END, ESP, STACK_END - 8 - 16, FLAGS, 2 | CF);
        x = paged(0, "CF", ESP, FREE + 60);
        page(x, 5, 0xC7);
        x.poke(16, 0, 2);
        Expect.same("IRET whose first word is absent", x.run(1), 1);
        Expect.same("the second was not reached", page(x, 5), 0xC7);
        has("and then there is no stack", x, CR2, FREE + 56, DELIVERIES, 0);
        x = paged(0, "CF", ESP, STACK_END - 12);
        x.poke(0x140 + 52, 0x40, 4);
        x.poke(0x140 + 60, 0x1234, 4);
        x.run(1);
        has("IRET up to the page's end", x, DELIVERIES, 0, EIP, 0x40, ESP, 0x1234);
    }

    private static void stringFaults() {
        Pc32 x = paged(0, "F3 A4", ESI, DATA, EDI, STACK_END - 1, ECX, 5);
        x.poke(0xC0, 0x2211, 2);
        x.setReg(ESP, STACK_END - 8);
        Expect.same("first byte", x.run(1), 1);
        has("first byte", x, ECX, 4, DELIVERIES, 0, EIP, 0);
        delivered("second byte", x, 14, 2);
        has("second byte", x, CR2, STACK_END, ECX, 4, ESI, DATA + 1, EDI, STACK_END);
        Expect.same("return address", x.peek(0x140 + 64 - 8 - 12, 4), 0);
        x = paged(0, "A4", ESI, FREE, EDI, FREE + 64);
        delivered("the read comes first", x, 14, 0);
        has("the read comes first", x, CR2, FREE);
        x = paged(0, "F3 AA", EDI, FREE, ECX, 0);
        x.run(1);
        has("ECX 0: nothing happens", x, DELIVERIES, 0, EIP, 2);
    }

    // ---- privilege ----

    private static void privileged() {
        String[] forms = {"FA", "FB", "E6 05", "CF", "F4", "0F 20 C0", "0F 22 E0"};
        for (String hex : forms) {
            Pc32 x = paged(3, hex, FLAGS, IF, EAX, 99, ESP, 12345);
            delivered(hex, x, 13, 0);
            has(hex, x, EAX, 99, CR4, 0, FLAGS, 2, ESP, STACK_END - 16, CR0, 0x80000000);
            pushed(hex, x, 12345, 0x3202, CODE, 0);
            Expect.same(hex + " status", x.status(), Pc32.RUNNING);
            Expect.same(hex + " port writes", x.portWrites(), 0);
        }
        Pc32 x = paged(3, "90", EIP, 63);
        x.poke(0x80 + 63, 0xE6, 1);
        page(x, 1, 0);
        delivered("the whole instruction is read first", x, 14, 4);
        x = paged(3, "0F 22 C8");
        delivered("a wrong ModRM comes before privilege", x, 6, -1);
    }

    private static void interruptInstructions() {
        Pc32 x = paged(3, "CD 20", FLAGS, IF);
        delivered("INT without bit 15", x, 13, 8 * 32 + 2);
        pushed("INT without bit 15", x, STACK_END, 0x3202, CODE, 8 * 32 + 2);
        x = paged(3, "CD 20", FLAGS, IF | CF, ESP, 77);
        x.poke(2 * 32, 0x8000 | handler(32), 2);
        delivered("INT with bit 15", x, 32, -1);
        pushed("INT with bit 15", x, 77, 0x3203, 2);
        has("INT", x, ESP, STACK_END - 12, FLAGS, 2 | CF);
        x = paged(3, "CC");
        delivered("CC without bit 15", x, 13, 8 * 3 + 2);
        x = paged(3, "CC");
        x.poke(6, 0x8000 | handler(3), 2);
        delivered("CC", x, 3, -1);
        pushed("CC", x, STACK_END, 0x3002, 1);
        x = paged(0, "CD 2F", ESP, STACK_END - 4, CR5, 5);
        delivered("INT at CPL 0 needs no bit 15", x, 47, -1);
        has("the stack is ESP", x, ESP, STACK_END - 16);
        x = paged(3, "CD FF");
        x.setReg(CR4, 0x3FE);
        x.run(1);
        Expect.same("no table at all", x.status(), Pc32.SHUTDOWN);
        x = paged(3, "CD FF");
        x.poke(2 * 13, 0x8000 | handler(13), 2);
        delivered("INT 255", x, 13, 8 * 255 + 2);
        x = paged(0, "CD 00", ESP, STACK_END, FLAGS, 0xFFF);
        delivered("vector 0 is at the table's begin", x, 0, -1);
        x = new Pc32(4);
        Expect.load(x, 0, "CD 7F CD 80");
        x.setReg(ESP, 0xF0);
        x.poke(0xFE, 2, 2);
        Expect.same("the last half word of memory", x.run(1), 1);
        has("the last half word of memory", x, VECTOR, 0x7F, EIP, 2);
        Expect.same("a half word past the end", x.run(1), 1);
        Expect.same("a half word past the end counts as 0", x.status(), Pc32.SHUTDOWN);
    }

    private static void returns() {
        int[][] flagsAndCpl = {{0xFFF, 0}, {0x1002, 3}, {0x2000, 3}, {0x3FFF, 3}, {0xFFFFCFFF, 0}, {0, 0}};
        for (int[] row : flagsAndCpl) {
            Pc32 x = paged(0, "CF", ESP, DATA);
            x.poke(0xC0, 0x12345678, 4);
            x.poke(0xC4, row[0], 4);
            x.poke(0xC8, 0xFEDCBA98L, 4);
            Expect.same("IRET", x.run(1), 1);
            has("IRET", x, EIP, 0x12345678, FLAGS, (row[0] & 0xEC5) | 2, CPL, row[1], ESP, 0xFEDCBA98, DELIVERIES, 0);
        }
        // There and back: INT 32 from CPL 3 to IRET at CPL 0.
        Pc32 x = paged(3, "CD 20", FLAGS, IF, ESP, NEXT_DATA);
        x.poke(64, 0x8000 | 0x20, 2);
        x.poke(0xA0, 0xCF, 1);
        Expect.same("run", x.run(2), 2);
        has("there and back", x, EIP, 2, ESP, NEXT_DATA, CPL, 3, FLAGS, 2 | IF, DELIVERIES, 1);
    }

    // ---- delivery ----

    private static void emptyEntries() {
        Pc32 x = paged(0, "CD 28");
        x.poke(2 * 40, 0x8000, 2);
        delivered("an entry of 8000h is empty", x, 13, 8 * 40 + 2);
        pushed("return address is that of the INT", x, STACK_END, 2, CODE, 8 * 40 + 2);
        x = paged(0, "CD 05");
        x.poke(10, 0, 2);
        delivered("below 32: double fault", x, 8, 0);
        pushed("double fault", x, STACK_END, 2, CODE, 0);
        x = paged(0, "06", FLAGS, IF | CF);
        x.poke(12, 0, 2);
        delivered("fault 6 without entry", x, 8, 0);
        pushed("double fault", x, STACK_END, IF | CF | 2, CODE, 0);
        x = paged(0, "CD 1F");
        x.poke(62, 0, 2);
        delivered("31 is below 32", x, 8, 0);
        x = paged(0, "CD 20");
        x.poke(64, 0, 2);
        x.poke(26, 0, 2);
        delivered("32, then 13, then 8", x, 8, 0);
        x = paged(0, "CD 08");
        delivered("INT 8 has no error code", x, 8, -1);
        x = paged(0, "CD 08");
        x.poke(16, 0, 2);
        shutdown("INT 8 without entry", x, 0);
    }

    private static void tripleFaults() {
        Pc32 x = paged(3, "06", FLAGS, 0xFFF);
        x.poke(12, 0, 2);
        x.poke(16, 0, 2);
        shutdown("6, 13, 13", x, 0);
        x = paged(3, "8B 06", ESI, FREE + 1, FLAGS, IF, EAX, 1);
        x.poke(28, 0, 2);
        x.poke(16, 0, 2);
        shutdown("CR2 is set also then", x, FREE + 1);
        Expect.same("the fetch's mark stays", page(x, 0), 0x8F);
        x = paged(3, "CD 20", CR5, 192 + 8);
        x.poke(64, 0x8000 | 5, 2);
        page(x, 2, 0);
        // ESP and the flags word go to page 3, the return address to page 2, which is absent; so with 14 and with 8.
        shutdown("words that were pushed stay", x, 188);
        Expect.same("pushed ESP", x.peek(0x144, 4), STACK_END);
        Expect.same("pushed flags word", x.peek(0x140, 4), 0x3002);
        Expect.same("the stack's mark", page(x, 3), 0x15F);
    }

    private static void stackFaultsInDelivery() {
        // The kernel stack begins on page 3 and goes on on page 2, which may not be written.
        Pc32 x = paged(0, "CD 20", ESP, 192 + 4);
        page(x, 2, 0x105);
        x.poke(28, 0, 2);
        shutdown("32, then 14 without entry, then 8 on the same stack", x, 188);
        Expect.same("first word stays", x.peek(0x140, 4), 196);
        x = paged(3, "CD 20", CR5, FREE + 64);
        x.poke(64, 0x8000 | 5, 2);
        shutdown("no kernel stack at all", x, FREE + 60);
        // Vector 6 with a stack that cannot be written, from CPL 0.
        x = paged(0, "06", ESP, FREE + 4);
        shutdown("fault 6 without stack", x, FREE);
        // A word across two pages of which the second is absent: nothing of it is written.
        x = paged(0, "06", ESP, STACK_END + 2);
        shutdown("a word across pages", x, STACK_END);
        Expect.same("nothing of the word is written", x.peek(0x140 + 62, 2), 0);
        Expect.same("but the first page is marked", page(x, 3), 0x15F);
        // The level of a delivery is 0, whatever CPL is.
        x = paged(3, "06");
        page(x, 3, 0x143);
        delivered("supervisor stack", x, 6, -1);
        Expect.same("marks", page(x, 3), 0x15B);
    }

    private static void readOnlyKernelStack() {
        Pc32 x = paged(3, "CD 20", FLAGS, IF);
        x.poke(64, 0x8000 | 5, 2);
        page(x, 3, 0x145);
        shutdown("32, 14 and 8 all fail", x, STACK_END - 4);
        Expect.same("no mark on it", page(x, 3), 0x145);
    }

    // ---- interrupts from outside ----

    private static void interrupts() {
        Pc32 x = paged(3, "90 90 90", FLAGS, 0);
        x.irq(33);
        Expect.same("IF 0", x.run(1), 1);
        has("IF 0", x, EIP, 1, 16, 33, DELIVERIES, 0);
        x.setReg(FLAGS, IF | CF);
        delivered("IF 1", x, 33, -1);
        pushed("IF 1", x, STACK_END, 0x3203, 1);
        has("IF 1", x, 16, -1, FLAGS, 2 | CF, ESP, STACK_END - 12);
        Expect.yes("another one", x.irq(47));
        x = paged(0, "FB F4 90", ESP, STACK_END);
        Expect.same("to HLT", x.run(5), 2);
        x.irq(47);
        delivered("HALTED", x, 47, -1);
        Expect.same("RUNNING", x.status(), Pc32.RUNNING);
        pushed("HALTED", x, STACK_END, 2 | IF, 2);
        x = paged(0, "F4");
        x.run(1);
        x.irq(32);
        Expect.same("HALTED with IF 0", x.run(1), 0);
        Expect.same("HALTED with IF 0", x.status(), Pc32.HALTED);
        has("HALTED with IF 0", x, 16, 32);
        x = paged(0, "FB 90");
        x.irq(32);
        Expect.same("the step after FB is the interrupt", x.run(2), 2);
        has("the step after FB is the interrupt", x, EIP, handler(32));
        pushed("FB", x, STACK_END, 2 | IF, 1);
    }

    private static void interruptsThatFail() {
        Pc32 x = paged(0, "F4", FLAGS, IF);
        x.run(1);
        x.irq(40);
        x.poke(80, 0, 2);
        delivered("no entry", x, 13, 8 * 40 + 2);
        Expect.same("RUNNING", x.status(), Pc32.RUNNING);
        pushed("no entry", x, STACK_END, 2 | IF, 1, 8 * 40 + 2);
        has("no longer pending", x, 16, -1);
        x = paged(0, "F4", FLAGS, IF);
        x.run(1);
        x.irq(40);
        x.setReg(CR4, 0x3FE);
        Expect.same("no table", x.run(3), 1);
        Expect.same("no table", x.status(), Pc32.SHUTDOWN);
        has("no longer pending", x, 16, -1, DELIVERIES, 0, EIP, 1, FLAGS, 2 | IF);
    }

    private static void wholeWordsArePushed() {
        Pc32 x = new Pc32(16);
        x.poke(0x200 + 2 * 33, 0x7FFF, 2);
        x.setReg(CR4, 0x200);
        x.setReg(FLAGS, 0xFFF);
        x.setReg(EIP, 0x81828384);
        x.setReg(CR5, 0x100);
        x.setReg(ESP, 0x91929394);
        x.setReg(CPL, 3);
        x.irq(33);
        x.run(1);
        has("the highest entry", x, EIP, 0x7FFF, ESP, 0x100 - 12, FLAGS, 0xEC7 & ~IF);
        Expect.same("ESP", x.peek(0xFC, 4), 0x91929394L);
        Expect.same("flags word", x.peek(0xF8, 4), 0x3EC7);
        Expect.same("return address", x.peek(0xF4, 4), 0x81828384L);
        Expect.same("no more", x.peek(0xF0, 4), 0);
    }

    private static void interruptInAString() {
        Pc32 x = paged(0, "90 F3 AA", FLAGS, IF, EDI, DATA, ECX, 9, EAX, 0x77);
        x.run(3);
        x.irq(32);
        delivered("in a string", x, 32, -1);
        pushed("in a string", x, STACK_END, 2 | IF, 1);
        has("in a string", x, ECX, 7, EDI, DATA + 2);
    }

    private static void counting() {
        Pc32 x = paged(0, "CD 20", ESP, STACK_END);
        x.poke(64, 0x20, 2);
        Expect.load(x, 0xA0, "06");
        Expect.same("run", x.run(2), 2);
        has("two deliveries", x, DELIVERIES, 2, VECTOR, 6, ERROR, -1, ESP, STACK_END - 24, EIP, handler(6));
    }

    public static void main(String[] args) {
        translateWithoutPaging();
        translateWithPaging();
        tablesPastTheEnd();
        pageFaultErrors();
        marks();
        readOnlyPages();
        sameHalfWord();
        accessAcrossPages();
        tableOverwritten();
        fetchAcrossPages();
        fetchesAsFarAsNeeded();
        bytesAtThePageEnd();
        stackFaults();
        stringFaults();
        privileged();
        interruptInstructions();
        returns();
        emptyEntries();
        tripleFaults();
        stackFaultsInDelivery();
        readOnlyKernelStack();
        interrupts();
        interruptsThatFail();
        wholeWordsArePushed();
        interruptInAString();
        counting();
        Expect.end("FaultTest");
    }
}
