// The sentences of 'Terms' under DELIVERY, each with a test of its own for the boundary cases that it names.
public final class DeliveryEdgeTest extends Bench {
    private static void everyEntry() {
        says("(1) E = half word at physical CR4 + 2v. E & 0x7FFF is 0: fault 13 with error code 8v + 2 arises.");
        for (int v = 0; v < 256; v++) {
            String hex = "CD" + imm(v, 1);
            for (int entry : new int[] {1, 0x7FFF, 0x8001, 0xFFFF}) {
                Pc32 x = flat(0, hex);
                flatEntry(x, v, entry);
                Expect.same(hex, x.run(1), 1);
                has(hex, x, EIP, entry & 0x7FFF, VECTOR, v, ERROR, -1, DELIVERIES, 1);
            }
            for (int entry : new int[] {0, 0x8000}) {
                if (v == 8) continue;
                Pc32 x = flat(0, hex);
                flatEntry(x, v, entry);
                delivered(hex + " with entry " + entry, x, v < 32 ? 8 : 13, v < 32 ? 0 : 8 * v + 2);
            }
        }
    }

    private static void edgesOfTheTable() {
        // The table's begin at the last half word of memory: vector 0 has an entry, all others lie past the end.
        Pc32 x = flat(0, "CD 00", CR4, 0x3FE);
        x.poke(0x3FE, 0x123, 2);
        x.run(1);
        has("vector 0 at the last half word", x, VECTOR, 0, EIP, 0x123);
        x = flat(0, "CD 01", CR4, 0x3FE);
        x.poke(0x3FE, 0x123, 2);
        shutdown("vector 1 past the end", x, 0);
        // The table begins one half word later: 255 has no entry, and 13 has what was that of 14.
        x = flat(0, "CD FF", CR4, FLAT_TABLE + 2);
        x.run(1);
        has("vector 255 past the end", x, VECTOR, 13, ERROR, 8 * 255 + 2, EIP, handler(14));
        // Physical: paging does not count for the table, and leaves no marks there.
        x = paged(0, "CD 2F");
        delivered("with paging", x, 47, -1);
        for (int v = 0; v < 48; v++) Expect.same("the table is as before", x.peek(2 * v, 2), handler(v));
    }

    private static void whichStack() {
        says("(2) sp = CR5 if CPL is 3, else ESP.");
        for (int cpl = 0; cpl <= 3; cpl += 3) {
            for (int[] row : new int[][] {{0x100, 0x140}, {0x140, 0x100}, {0x100, 0x100}}) {
                Pc32 x = flat(cpl, "06", ESP, row[0], CR5, row[1]);
                delivered("CPL " + cpl, x, 6, -1);
                int used = cpl == 3 ? row[1] : row[0];
                has("CPL " + cpl, x, ESP, used - 12, CR5, row[1]);
                pushedBelow("CPL " + cpl, x, used, row[0], 2 | (cpl << 12), FLAT_CODE);
            }
        }
        Pc32 x = flat(3, "06", ESP, 0x100, CR5, 0);
        delivered("CR5 of 0", x, 6, -1);
        has("CR5 of 0: sp wraps", x, ESP, -12);
        x = flat(3, "06", ESP, 0x100, CR5, 6);
        delivered("CR5 of 6", x, 6, -1);
        has("CR5 of 6", x, ESP, -6);
        Expect.same("what is left of the words", x.peek(0, 6), 0x01000000);
    }

    private static void wordsInOrder() {
        says("Pushed one by one, each word written at sp-4 with translations at level 0, sp = sp-4: ESP; the flags word + (CPL << 12); the return"
            + " address; the error code if there is one.");
        for (int cpl = 0; cpl <= 3; cpl += 3) {
            Pc32 x = flat(cpl, "06", FLAGS, -1);
            delivered("no error code", x, 6, -1);
            int end = cpl == 3 ? FLAT_KERNEL_STACK : FLAT_STACK;
            has("three words", x, ESP, end - 12);
            pushedBelow("three words", x, end, FLAT_STACK, ALL_FLAGS | 2 | (cpl << 12), FLAT_CODE, 0);
            x = flat(cpl, "CD 30", FLAGS, -1);
            flatEntry(x, 48, 0x8000);
            x.poke(end - 16, 0xEEEEEEEEL, 4);
            delivered("error code", x, 13, 8 * 48 + 2);
            has("four words", x, ESP, end - 16);
            pushedBelow("four words", x, end, FLAT_STACK, ALL_FLAGS | 2 | (cpl << 12), FLAT_CODE, 8 * 48 + 2);
        }
        Pc32 x = flat(3, "F4");
        x.poke(FLAT_KERNEL_STACK - 16, 0xEEEEEEEEL, 4);
        delivered("an error code of 0 is one", x, 13, 0);
        has("an error code of 0 is one", x, ESP, FLAT_KERNEL_STACK - 16);
        Expect.same("an error code of 0 is one", x.peek(FLAT_KERNEL_STACK - 16, 4), 0);
        // Level 0: the stack's page is not for level 3; it must be for writing.
        x = paged(3, "06");
        page(x, 3, 0x143);
        delivered("a stack of level 0", x, 6, -1);
        Expect.same("its mark", page(x, 3), 0x15B);
        Expect.same("D's mark", x.peek(DIRECTORY, 2), TABLE | 15);
        x = paged(3, "06");
        page(x, 3, 0x145);
        shutdown("a stack not for writing", x, STACK_END - 4);
    }

    private static void pushesThatFault() {
        says("A translation that faults ends the delivery: fault 14 arises (words pushed before stay in memory).");
        // The stack goes from page 3 down to page 2, which is absent; room bytes are left on page 3.
        for (int room = 0; room <= 16; room++) {
            for (int cpl = 0; cpl <= 3; cpl += 3) {
                Pc32 x = paged(cpl, "06", ESP, 192 + room, CR5, 192 + room, FLAGS, IF);
                page(x, 2, 0x106);
                int[] words = {192 + room, 0x202 | (cpl << 12), CODE};
                int whole = Math.min(room / 4, 3);
                String what = "room for " + room + " bytes at CPL " + cpl;
                if (whole == 3) delivered(what, x, 6, -1);
                else shutdown(what, x, 192 + room - 4 * whole - 4);
                for (int i = 0; i < whole; i++) Expect.same(what + ": word " + i, (int) x.peek(0x140 + room - 4 - 4 * i, 4), words[i]);
                if (whole < 3 && room % 4 != 0) Expect.same(what + ": no part of a word", x.peek(0x140, room % 4), 0);
                Expect.same(what + ": no mark", page(x, 2), 0x106);
            }
        }
        // The upper page is absent: only the word that reaches into it faults, at its first byte there.
        for (int over = 1; over < 4; over++) {
            Pc32 x = paged(0, "06", ESP, STACK_END + over);
            shutdown("over the page's end", x, STACK_END);
            Expect.same("nothing is written", x.peek(0x17C, 4), 0);
            Expect.same("the lower page is marked", page(x, 3), 0x15F);
        }
    }

    private static void roomForThreeWords() {
        // Three words fit, four do not: 6 has no error code; 13 has one, and so has 8.
        Pc32 x = paged(3, "06", CR5, 192 + 12);
        page(x, 2, 0);
        delivered("6", x, 6, -1);
        x = paged(3, "F4", CR5, 192 + 12);
        page(x, 2, 0);
        shutdown("13, then 8", x, 188);
        pushedBelow("13, then 8: what 8 pushed", x, 0x14C, STACK_END, 0x3002, CODE);
    }

    private static void stateAfterDelivery() {
        says("(3) ESP = sp, EIP = E & 0x7FFF, CPL = 0, IF = 0; one more delivery is counted; the last vector is v, the last error is the error code,"
            + " or -1 if there was none.");
        Pc32 x = flat(3, "F4", FLAGS, -1, EAX, 1, ECX, 2, EDX, 3, EBX, 4, EBP, 5, ESI, 6, EDI, 7, CR2, 8);
        flatEntry(x, 13, 0xFFFF);
        x.run(1);
        has("13", x, ESP, FLAT_KERNEL_STACK - 16, EIP, 0x7FFF, CPL, 0, FLAGS, ALL_FLAGS & ~IF | 2, DELIVERIES, 1, VECTOR, 13, ERROR, 0);
        has("all others stay", x, EAX, 1, ECX, 2, EDX, 3, EBX, 4, EBP, 5, ESI, 6, EDI, 7, CR0, 0, CR2, 8, CR3, 0, CR4, FLAT_TABLE,
            CR5, FLAT_KERNEL_STACK);
        // The next delivery, at CPL 0, goes on below on the same stack, and has no error code.
        x.setReg(EIP, FLAT_CODE);
        Expect.load(x, FLAT_CODE, "CD 00");
        x.run(1);
        has("then 0", x, ESP, FLAT_KERNEL_STACK - 28, EIP, handler(0), CPL, 0, DELIVERIES, 2, VECTOR, 0, ERROR, -1);
        // The words overwrite the entry itself: E is as it was read in (1).
        x = flat(0, "CD 20", ESP, FLAT_TABLE + 64 + 4);
        delivered("the entry is overwritten", x, 32, -1);
        Expect.same("the entry is overwritten", x.peek(FLAT_TABLE + 64, 4), FLAT_TABLE + 68);
        // A delivery that failed is not counted.
        x = flat(0, "CD 30");
        flatEntry(x, 48, 0);
        x.run(1);
        has("only the one that was made", x, DELIVERIES, 1);
    }

    private static void shutdownAtVector8() {
        says("A fault that arises in (1) or (2): if v is 8: status becomes SHUTDOWN, nothing else changes.");
        for (int cpl = 0; cpl <= 3; cpl += 3) {
            Pc32 x = flat(cpl, "06", FLAGS, -1, CR2, 5);
            flatEntry(x, 6, 0);
            flatEntry(x, 8, 0x8000);
            long[] before = memory(x);
            shutdown("6, 13, 8, 13", x, 5);
            sameMemory("6, 13, 8, 13", x, before);
        }
        Pc32 x = flat(0, "CD 08", FLAGS, -1, CR2, 5);
        flatEntry(x, 8, 0);
        long[] before = memory(x);
        shutdown("INT 8 without entry", x, 5);
        sameMemory("INT 8 without entry", x, before);
        x = paged(0, "CD 08", ESP, FREE + 4, FLAGS, -1);
        shutdown("INT 8 without stack", x, FREE);
        x = flat(0, "CD 08");
        delivered("INT 8 with all", x, 8, -1);
        pushedBelow("INT 8 with all", x, FLAT_STACK, FLAT_STACK, 2, FLAT_CODE + 2, 0);
    }

    private static void vector8Below32() {
        says("Else if v < 32: vector 8 is delivered with error code 0.");
        for (int v = 0; v < 40; v++) {
            if (v == 8) continue;
            Pc32 x = flat(0, "CD" + imm(v, 1), FLAGS, -1);
            flatEntry(x, v, 0);
            delivered("INT " + v, x, v < 32 ? 8 : 13, v < 32 ? 0 : 8 * v + 2);
            pushedBelow("INT " + v, x, FLAT_STACK, FLAT_STACK, ALL_FLAGS | 2, FLAT_CODE, v < 32 ? 0 : 8 * v + 2);
        }
        // Of faults: 0, 6, 13 and 14, each without entry.
        Pc32 x = flat(3, "F7 F9");
        flatEntry(x, 0, 0);
        delivered("0", x, 8, 0);
        x = flat(3, "06");
        flatEntry(x, 6, 0);
        delivered("6", x, 8, 0);
        x = flat(3, "F4");
        flatEntry(x, 13, 0x8000);
        delivered("13", x, 8, 0);
        x = paged(3, "8B 06", ESI, FREE);
        pagedEntry(x, 14, 0);
        delivered("14", x, 8, 0);
        has("14", x, CR2, FREE);
        pushed("14", x, STACK_END, 0x3002, CODE, 0);
    }

    private static void newFaultFrom32On() {
        says("Else the new fault is delivered with its error code.");
        for (int v = 32; v < 256; v++) {
            Pc32 x = flat(3, "CD" + imm(v, 1));
            flatEntry(x, v, 0x8000);
            delivered("INT " + v, x, 13, 8 * v + 2);
            pushedBelow("INT " + v, x, FLAT_KERNEL_STACK, FLAT_STACK, 0x3002, FLAT_CODE, 8 * v + 2);
        }
        for (int v = 32; v <= 47; v++) {
            Pc32 x = flat(0, "90", FLAGS, IF);
            flatEntry(x, v, 0);
            x.irq(v);
            delivered("irq " + v, x, 13, 8 * v + 2);
            has("irq " + v, x, PENDING, -1);
        }
        // The new fault is below 32: if it can't be delivered either, it is vector 8's turn.
        Pc32 x = flat(0, "CD 20");
        flatEntry(x, 32, 0);
        flatEntry(x, 13, 0);
        delivered("32, 13, 8", x, 8, 0);
        x = flat(0, "CD 20");
        flatEntry(x, 32, 0);
        flatEntry(x, 13, 0);
        flatEntry(x, 8, 0);
        shutdown("32, 13, 8, SHUTDOWN", x, 0);
    }

    /**
     * For a delivery to be made where the one before it met a page fault, the first try must change the page tables under the
     * second. The word ESP goes, at the first try, over T of page 8 (now absent) and of page 9 (now the directory's frame);
     * the next word faults. At the second try ESP so goes over the directory, whose entry 1 then leads to a table with page 8
     * in it.
     */
    private static Pc32 secondTryFinds(String hex) {
        Pc32 x = paged(3, hex, CR5, 0x244, ESP, 0x02170000, FLAGS, IF | CF);
        x.poke(0x200, 0x02470257, 4);
        x.poke(0x250, 0x87, 2);
        x.poke(0x240, 0x02470307, 4);
        x.poke(0x210, 0x307, 2);
        return x;
    }

    private static void secondTryMade(String what, Pc32 x, int vector, int error) {
        delivered(what, x, vector, error);
        has(what, x, CR2, 0x23C, ESP, 0x234, FLAGS, 2 | CF);
        Expect.same(what + ": ESP, second try", x.peek(0x200, 2), 0);
        pushedBelow(what, x, 0x340, 0x3203, CODE, error);
    }

    private static void pageFaultInADelivery() {
        says("A fault that arises in (1) or (2): if v is 8: status becomes SHUTDOWN, nothing else changes. Else if v < 32: vector 8 is delivered"
            + " with error code 0. Else the new fault is delivered with its error code.");
        Pc32 x = secondTryFinds("CD 20");
        pagedEntry(x, 32, 0x8000 | 5);
        secondTryMade("32, then 14", x, 14, 2);
        x = secondTryFinds("90");
        x.irq(33);
        secondTryMade("33 from outside, then 14", x, 14, 2);
        x = secondTryFinds("06");
        secondTryMade("6, then 8", x, 8, 0);
        x = secondTryFinds("F4");
        secondTryMade("13, then 8", x, 8, 0);
        x = secondTryFinds("CD 1F");
        pagedEntry(x, 31, 0x8000 | 5);
        secondTryMade("31, then 8", x, 8, 0);
        x = secondTryFinds("CD 08");
        pagedEntry(x, 8, 0x8000 | 5);
        shutdown("8: there is no second try", x, 0x23C);
        Expect.same("8: there is no second try", x.peek(0x200, 4), 0x024F025F);
    }

    private static void returnAddressIsTheStart() {
        says("In both cases the return address is EIP as it was at the start of the step.");
        Pc32 x = flat(0, "90 CD 20", EIP, FLAT_CODE + 1);
        flatEntry(x, 32, 0);
        delivered("the new fault", x, 13, 8 * 32 + 2);
        pushedBelow("the new fault", x, FLAT_STACK, FLAT_STACK, 2, FLAT_CODE + 1);
        x = flat(0, "90 CD 05", EIP, FLAT_CODE + 1);
        flatEntry(x, 5, 0);
        delivered("vector 8", x, 8, 0);
        pushedBelow("vector 8", x, FLAT_STACK, FLAT_STACK, 2, FLAT_CODE + 1);
        x = flat(0, "90 CC", EIP, FLAT_CODE + 1);
        flatEntry(x, 3, 0);
        delivered("vector 8 after CC", x, 8, 0);
        pushedBelow("vector 8 after CC", x, FLAT_STACK, FLAT_STACK, 2, FLAT_CODE + 1);
        x = flat(0, "90", FLAGS, IF, EIP, -3);
        flatEntry(x, 40, 0);
        x.irq(40);
        delivered("an interrupt", x, 13, 8 * 40 + 2);
        pushedBelow("an interrupt", x, FLAT_STACK, FLAT_STACK, 2 | IF, -3);
    }

    private static void stateAtTheStart() {
        says("(EIP, CPL, ESP and flags are still those from the start of the step, also when it ends in SHUTDOWN.)");
        // From CPL 3: the second try still uses CR5, and pushes the ESP and the flags of the start.
        Pc32 x = flat(3, "CD 20", FLAGS, -1, ESP, 0x87654321);
        flatEntry(x, 32, 0x8000);
        delivered("the second try", x, 13, 8 * 32 + 2);
        pushedBelow("the second try", x, FLAT_KERNEL_STACK, 0x87654321, ALL_FLAGS | 0x3002, FLAT_CODE);
        x = flat(3, "CD 20", FLAGS, -1, ESP, 0x87654321);
        flatEntry(x, 32, 0x8000);
        flatEntry(x, 13, 0);
        delivered("the third try", x, 8, 0);
        pushedBelow("the third try", x, FLAT_KERNEL_STACK, 0x87654321, ALL_FLAGS | 0x3002, FLAT_CODE, 0);
        x = flat(3, "CD 20", FLAGS, -1, ESP, 0x87654321);
        for (int v : new int[] {8, 13, 32}) flatEntry(x, v, 0x8000);
        shutdown("SHUTDOWN", x, 0);
        x = paged(3, "CD 20", FLAGS, -1, CR5, 192 + 4, ESP, 0x87654321);
        pagedEntry(x, 32, 0x8000 | 1);
        page(x, 2, 0);
        shutdown("SHUTDOWN after words were pushed", x, 188);
        Expect.same("the word", (int) x.peek(0x140, 4), 0x87654321);
        // HALTED, an interrupt, no table: the status that stays is SHUTDOWN, and the interrupt is gone.
        x = flat(0, "FB F4");
        x.run(2);
        x.irq(40);
        x.setReg(CR4, 0);
        Expect.same("run", x.run(9), 1);
        Expect.same("SHUTDOWN", x.status(), Pc32.SHUTDOWN);
        has("SHUTDOWN from HALTED", x, PENDING, -1, EIP, FLAT_CODE + 2, FLAGS, 2 | IF, ESP, FLAT_STACK, DELIVERIES, 0);
    }

    public static void main(String[] args) {
        everyEntry();
        edgesOfTheTable();
        whichStack();
        wordsInOrder();
        pushesThatFault();
        roomForThreeWords();
        stateAfterDelivery();
        shutdownAtVector8();
        vector8Below32();
        newFaultFrom32On();
        pageFaultInADelivery();
        returnAddressIsTheStart();
        stateAtTheStart();
        Expect.end("DeliveryEdgeTest");
    }
}
