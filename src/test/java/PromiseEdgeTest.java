// The sentences of promises 1 to 13 and of 'What it is', each with a test of its own for the boundary cases that it names.
public final class PromiseEdgeTest extends Bench {
    private static final int LEAST = Integer.MIN_VALUE, GREATEST = Integer.MAX_VALUE;
    private static final int[] STATUSES = {Pc32.RUNNING, Pc32.HALTED, Pc32.SHUTDOWN};

    /** A machine with 4 frames in which nothing is as in a fresh one: memory, registers, a delivery, port writes. */
    private static Pc32 busy() {
        Pc32 x = new Pc32(4);
        for (int at = 0; at < 256; at += 8) x.poke(at, 0x0102030405060708L * (at + 1), 8);
        x.poke(0xC0 + 2 * 13, 0x50, 2);
        // OUT 21h; OUT 22h; INT 20h, whose entry lies past the end: vector 13 with error code 102h
        Expect.load(x, 0x40, "E6 21 E6 22 CD 20");
        set(x, EIP, 0x40, EAX, 0x99, ESP, 0x30, CR4, 0xC0);
        x.run(3);
        for (int i = 0; i < 8; i++) x.setReg(i, 0x11111111 * (i + 1));
        set(x, EIP, 0x44, FLAGS, ALL_FLAGS, CR0, -1, CR2, 77, CR3, 0x40, CR4, 0x80, CR5, 99, CPL, 3);
        return x;
    }

    private static Pc32 inStatus(int status) {
        Pc32 x = new Pc32(4);
        if (status == Pc32.HALTED) Expect.load(x, 0, "F4");
        if (status == Pc32.SHUTDOWN) Expect.load(x, 0, "06");
        x.run(1);
        Expect.same("status", x.status(), status);
        return x;
    }

    /** Everything that can be seen of a machine with 4 frames. */
    private static long[] seen(Pc32 x) {
        long[] all = new long[72];
        for (int i = 0; i <= 20; i++) all[i] = x.reg(i);
        all[21] = x.status();
        all[22] = x.portWrites();
        for (int i = 0; i < 16; i++) all[23 + i] = x.portWrite(i);
        for (int i = 0; i < 32; i++) all[39 + i] = x.peek(8 * i, 8);
        return all;
    }

    private static void sameAsSeen(String what, Pc32 x, long[] before) {
        long[] after = seen(x);
        for (int i = 0; i < before.length; i++) Expect.same(what + ": seen " + i, after[i], before[i]);
    }

    // ---- what it is ----

    private static void the512thCall() {
        says("An object is used for at most 512 calls after it has been made");
        // OUT 5; INC EAX; JMP back: every third step is a port write. To store this and to set ESP took six calls.
        Pc32 x = with("E6 05 40 EB FB");
        for (int call = 7; call <= 510; call++) Expect.same("run", x.run(200), 200);
        int writes = 504 * 200 / 3;
        Expect.same("511th call", x.portWrites(), writes);
        Expect.same("512th call", x.portWrite(15), 0x500 | ((writes - 1 - 15) & 255));
    }

    // ---- promise 1 ----

    private static void framesOutOfRange() {
        says("frames below 4 counts as 4, above 16 as 16.");
        int[][] framesAndSize = {{LEAST, 256}, {-16, 256}, {-1, 256}, {0, 256}, {3, 256}, {4, 256}, {5, 320}, {15, 960}, {16, 1024},
            {17, 1024}, {64, 1024}, {0x04000004, 1024}, {GREATEST, 1024}};
        for (int[] row : framesAndSize) {
            Pc32 x = new Pc32(row[0]);
            Expect.same("S for " + row[0] + " frames", x.reg(SIZE), row[1]);
            Expect.yes("the last byte", x.poke(row[1] - 1, 1, 1));
            Expect.no("the byte after it", x.poke(row[1], 1, 1));
        }
    }

    private static void fresh(String what, Pc32 x) {
        for (int i = 0; i < 16; i++) Expect.same(what + ": reg " + i, x.reg(i), i == FLAGS ? 2 : 0);
        has(what, x, PENDING, -1, DELIVERIES, 0, VECTOR, -1, ERROR, -1);
        Expect.same(what + ": status", x.status(), Pc32.RUNNING);
        Expect.same(what + ": port writes", x.portWrites(), 0);
        Expect.same(what + ": no port write", x.portWrite(0), -1);
    }

    private static void freshObject() {
        says("Fresh: memory and all registers 0, flags word 2, CPL 0, RUNNING, no interrupt pending, no port write, no delivery counted,"
            + " last vector and last error -1.");
        for (int frames = 4; frames <= 16; frames++) {
            Pc32 x = new Pc32(frames);
            fresh("new", x);
            for (int at = 0; at < 64 * frames; at += 8) Expect.same("memory", x.peek(at, 8), 0);
            Expect.yes("nothing is pending", x.irq(32));
        }
    }

    // ---- promise 2 ----

    private static void pokeStoresLowBytes() {
        says("Stores the count low bytes of 'bytes', lowest first, at physical addresses address .. address+count-1.");
        for (int count = 1; count <= 8; count++) {
            for (int at : new int[] {0, 9, 256 - count}) {
                Pc32 x = new Pc32(4);
                Expect.yes("poke of " + count + " at " + at, x.poke(at, 0x8F7E6D5C4B3A2918L, count));
                for (int i = 0; i < 256; i++) {
                    long one = i >= at && i < at + count ? (0x8F7E6D5C4B3A2918L >>> (8 * (i - at))) & 255 : 0;
                    Expect.same("byte " + i, x.peek(i, 1), one);
                }
            }
        }
    }

    private static final int[][] OUTSIDE = {{0, 0}, {0, -1}, {0, LEAST}, {0, 9}, {0, 16}, {0, GREATEST}, {-1, 1}, {-1, 2}, {-8, 8}, {LEAST, 1},
        {LEAST, 8}, {256, 1}, {255, 2}, {249, 8}, {253, 4}, {257, 1}, {1000, 1}, {GREATEST, 1}, {GREATEST, 8}, {GREATEST - 7, 8},
        {256, 0}, {-1, 0}, {GREATEST, GREATEST}, {LEAST, LEAST}, {LEAST, GREATEST}, {100, LEAST}};

    private static void pokeRefused() {
        says("False, and nothing changes, if count < 1 or count > 8 or address < 0 or address + count > S (no wrapping).");
        for (int[] row : OUTSIDE) {
            Pc32 x = busy();
            long[] before = seen(x);
            Expect.no("poke(" + row[0] + ", .., " + row[1] + ")", x.poke(row[0], 0xA5A5A5A5A5A5A5A5L, row[1]));
            sameAsSeen("poke refused", x, before);
        }
        for (int frames = 4; frames <= 16; frames++) {
            Pc32 x = new Pc32(frames);
            for (int count = 1; count <= 8; count++) {
                Expect.yes("up to the end", x.poke(64 * frames - count, 1, count));
                Expect.no("over the end", x.poke(64 * frames - count + 1, 1, count));
            }
        }
    }

    private static void pokeInEveryStatus() {
        says("Allowed in every status.");
        for (int status : STATUSES) {
            Pc32 x = inStatus(status);
            Expect.yes("poke", x.poke(16, 0x1234, 2));
            Expect.same("poked", x.peek(16, 2), 0x1234);
            Expect.same("status", x.status(), status);
        }
    }

    // ---- promise 3 ----

    private static void peekInsideAndOutside() {
        says("The count bytes at physical address .. address+count-1 as a number, lowest byte first (8: all 64 bits); 0 if count < 1 or"
            + " count > 8 or address < 0 or address + count > S.");
        Pc32 x = busy();
        x.poke(248, 0x8F7E6D5C4B3A2918L, 8);
        x.poke(0, 0x8F7E6D5C4B3A2918L, 8);
        Expect.same("8 bytes have all 64 bits", x.peek(0, 8), 0x8F7E6D5C4B3A2918L);
        for (int count = 1; count <= 8; count++) {
            long top = 0x8F7E6D5C4B3A2918L >>> (64 - 8 * count);
            Expect.same("the last " + count + " bytes", x.peek(256 - count, count), top);
            Expect.same("one byte over", x.peek(257 - count, count), 0);
            if (count < 8) Expect.same("the first " + count, x.peek(0, count), 0x8F7E6D5C4B3A2918L & ((1L << (8 * count)) - 1));
        }
        for (int[] row : OUTSIDE) Expect.same("peek(" + row[0] + ", " + row[1] + ")", x.peek(row[0], row[1]), 0);
    }

    // ---- promise 4 ----

    private static void setEveryRegister() {
        says("which 0..7: general register; 8: EIP; 9: CF, PF, ZF, SF, IF, DF, OF from the bits of a flags word (other bits are passed"
            + " over); 10: CR0; 11: CR2; 12: CR3; 13: CR4; 14: CR5 (masked as above);");
        int[] values = {0, 1, -1, GREATEST, LEAST, 0x55555555, 0xAAAAAAAA, 0x400, 0xF, 0x3FF};
        for (int which = 0; which < 15; which++) {
            for (int value : values) {
                Pc32 x = busy();
                long[] before = seen(x);
                Expect.yes("setReg", x.setReg(which, value));
                int kept = which == FLAGS ? value & ALL_FLAGS | 2 : which == CR0 ? value & LEAST
                    : which == CR3 ? value & 0x3F0 : which == CR4 ? value & 0x3FE : value;
                before[which] = kept;
                sameAsSeen("setReg(" + which + ", " + value + ")", x, before);
            }
        }
    }

    private static void levelByTwoBits() {
        says("15: CPL = 0 if bits 0 and 1 of value are both 0, else 3.");
        int[] others = {0, 4, 8, 0x3000, 0x7FFFFFFC, 0x80000000, 0xFFFFFFFC};
        for (int other : others) {
            for (int low = 0; low < 4; low++) {
                Pc32 x = new Pc32(4);
                x.setReg(CPL, low == 0 ? 3 : 0);
                Expect.yes("setReg", x.setReg(CPL, other | low));
                Expect.same("CPL of " + (other | low), x.reg(CPL), low == 0 ? 0 : 3);
            }
        }
    }

    private static void setRegRefused() {
        says("True. Any other which: false, nothing changes.");
        for (int which : new int[] {-1, -8, 16, 17, 18, 19, 20, 21, 31, 32, 256, 0x10000, GREATEST, LEAST}) {
            Pc32 x = busy();
            x.irq(41);
            long[] before = seen(x);
            Expect.no("setReg " + which, x.setReg(which, 5));
            sameAsSeen("setReg " + which, x, before);
        }
        Pc32 x = new Pc32(4);
        for (int which = 0; which < 16; which++) Expect.yes("setReg " + which, x.setReg(which, 0));
    }

    private static void setRegInEveryStatus() {
        says("Allowed in every status, which it leaves.");
        for (int status : STATUSES) {
            for (int which = 0; which < 16; which++) {
                Pc32 x = inStatus(status);
                Expect.yes("setReg " + which, x.setReg(which, 0x80000213));
                int due = which == FLAGS ? 0x203 : which == CR0 ? 0x80000000 : which == CR3 ? 0x210 : which == CR4 ? 0x212 : 0x80000213;
                Expect.same("reg " + which, x.reg(which), which == CPL ? 3 : due);
                Expect.same("status after setReg " + which, x.status(), status);
                if (status != Pc32.RUNNING) Expect.same("no step", x.run(5), 0);
            }
        }
    }

    // ---- promise 5 ----

    private static void regOfEveryNumber() {
        says("which 0..15 as for setReg (9: the flags word); 16: the pending vector, or -1; 17: the number of deliveries (wraps); 18: the"
            + " last vector; 19: the last error; 20: S; any other: 0.");
        Pc32 x = busy();
        for (int i = 0; i < 8; i++) Expect.same("general " + i, x.reg(i), 0x11111111 * (i + 1));
        has("registers", x, EIP, 0x44, FLAGS, ALL_FLAGS | 2, CR0, LEAST, CR2, 77, CR3, 0x40, CR4, 0x80, CR5, 99, CPL, 3);
        has("a delivery", x, DELIVERIES, 1, VECTOR, 13, ERROR, 8 * 32 + 2, PENDING, -1, SIZE, 256);
        x.irq(47);
        has("pending", x, PENDING, 47);
        for (int which : new int[] {-1, -2, -16, 21, 22, 32, 64, 256, 0x10000, GREATEST, LEAST}) has("any other", x, which, 0);
    }

    private static void manyDeliveries() {
        says("17: the number of deliveries (wraps);");
        // INT 20h leads to itself; its stack lies far above memory. No run of 512 calls gets further than this.
        Pc32 x = flatLoop();
        for (int call = 1; call <= 150; call++) {
            Expect.same("run", x.run(200), 200);
            Expect.same("deliveries", x.reg(DELIVERIES), 200 * call);
        }
        has("last vector and error", x, VECTOR, 32, ERROR, -1);
    }

    private static Pc32 flatLoop() {
        Pc32 x = new Pc32(4);
        Expect.load(x, 0x40, "CD 20");
        x.poke(0x80 + 64, 0x40, 2);
        set(x, EIP, 0x40, CR4, 0x80, ESP, 0x70000000);
        return x;
    }

    private static void deliveriesBeyond16Bits() {
        Pc32 x = flatLoop();
        for (int call = 0; call < 400; call++) x.run(200);
        has("80000 deliveries", x, DELIVERIES, 80000, ESP, 0x70000000 - 80000 * 12);
    }

    // ---- promise 6 ----

    private static void irqRefused() {
        says("Makes the vector pending. False, and nothing changes, if status is SHUTDOWN, vector is not 32..47, or one is pending.");
        for (int vector = 32; vector <= 47; vector++) {
            Pc32 x = busy();
            long[] before = seen(x);
            Expect.yes("irq " + vector, x.irq(vector));
            before[PENDING] = vector;
            sameAsSeen("irq " + vector, x, before);
            Expect.no("one is pending", x.irq(79 - vector));
            Expect.no("the same one is pending", x.irq(vector));
            sameAsSeen("refused while one is pending", x, before);
        }
        for (int vector : new int[] {31, 48, 30, 49, 0, -1, 14, 255, 32 + 256, 32 - 256, -32, GREATEST, LEAST}) {
            Pc32 x = busy();
            long[] before = seen(x);
            Expect.no("irq " + vector, x.irq(vector));
            sameAsSeen("irq " + vector, x, before);
        }
        Pc32 x = inStatus(Pc32.SHUTDOWN);
        long[] before = seen(x);
        for (int vector = 31; vector <= 48; vector++) Expect.no("irq in SHUTDOWN", x.irq(vector));
        sameAsSeen("irq in SHUTDOWN", x, before);
        Expect.yes("irq in HALTED", inStatus(Pc32.HALTED).irq(32));
        Expect.yes("irq in RUNNING", inStatus(Pc32.RUNNING).irq(47));
    }

    // ---- promise 7 ----

    private static void limitOutOfRange() {
        says("limit below 0 counts as 0, above 200 as 200.");
        int[][] limitAndDone = {{LEAST, 0}, {-200, 0}, {-1, 0}, {0, 0}, {1, 1}, {2, 2}, {199, 199}, {200, 200}, {201, 200}, {256, 200},
            {1000000, 200}, {GREATEST, 200}};
        for (int[] row : limitAndDone) {
            // INC EAX; JMP back
            Pc32 x = with("40 EB FD");
            Expect.same("run(" + row[0] + ")", x.run(row[0]), row[1]);
            has("steps of run(" + row[0] + ")", x, EAX, (row[1] + 1) / 2);
        }
    }

    private static void runUntilNoneIsPossible() {
        says("Does steps until limit are done or none is possible; answers how many were done.");
        for (int before = 0; before < 5; before++) {
            for (int limit = 0; limit < 8; limit++) {
                Pc32 halts = with("90 90 90 90 90".substring(0, 3 * before) + "F4 40");
                int due = Math.min(limit, before + 1);
                Expect.same("run to HLT", halts.run(limit), due);
                Expect.same("status", halts.status(), limit > before ? Pc32.HALTED : Pc32.RUNNING);
                if (limit > before) Expect.same("again", halts.run(limit), 0);
                Pc32 fails = with("90 90 90 90 90".substring(0, 3 * before) + "06 40");
                Expect.same("run to SHUTDOWN", fails.run(limit), due);
                Expect.same("status", fails.status(), limit > before ? Pc32.SHUTDOWN : Pc32.RUNNING);
                if (limit > before) Expect.same("again", fails.run(limit), 0);
                has("nothing after it", fails, EAX, 0);
            }
        }
        // FB; HLT; then an interrupt whose handler halts again
        Pc32 x = flat(0, "FB F4");
        flatEntry(x, 32, 0x41);
        Expect.same("to HLT", x.run(200), 2);
        x.irq(32);
        Expect.same("the delivery and HLT", x.run(200), 2);
        x.setReg(FLAGS, IF);
        Expect.same("nothing pending", x.run(200), 0);
    }

    // ---- promise 8 ----

    private static void statuses() {
        says("RUNNING, HALTED or SHUTDOWN.");
        Pc32 x = flat(0, "F4 90 06");
        Expect.same("RUNNING", x.status(), 0);
        x.run(9);
        Expect.same("HALTED", x.status(), 1);
        x.irq(33);
        Expect.same("irq alone leaves HALTED", x.status(), 1);
        x.setReg(FLAGS, IF);
        x.run(0);
        Expect.same("run(0) leaves HALTED", x.status(), 1);
        x.run(1);
        Expect.same("RUNNING again", x.status(), 0);
        x.setReg(CR4, 0x3FE);
        Expect.load(x, FLAT_CODE, "06");
        x.setReg(EIP, FLAT_CODE);
        x.run(9);
        Expect.same("SHUTDOWN", x.status(), 2);
        x.reset();
        Expect.same("RUNNING after reset", x.status(), 0);
    }

    // ---- promises 9 and 10 ----

    private static void countOfPortWrites() {
        says("How many port writes there were (wraps).");
        Pc32 x = with("E6 05 EB FC");
        Expect.same("none", x.portWrites(), 0);
        for (int i = 1; i <= 40; i++) {
            x.run(1);
            Expect.same("after the OUT", x.portWrites(), i);
            x.run(1);
            Expect.same("after the jump", x.portWrites(), i);
        }
        Pc32 user = flat(3, "E6 05");
        user.run(1);
        Expect.same("an OUT that faults is none", user.portWrites(), 0);
        Pc32 many = with("E6 05 E6 06 E6 07 EB F8");
        for (int i = 0; i < 480; i++) many.run(200);
        Expect.same("72000 port writes", many.portWrites(), 72000);
        Expect.same("the latest", many.portWrite(0), 0x700);
        Expect.same("15 before it", many.portWrite(15), 0x700);
        Expect.same("16 before it", many.portWrite(16), -1);
    }

    private static void portWritesBack() {
        says("The port write that is 'back' writes before the latest (0: the latest) as port * 256 + value; -1 if back is not 0..15 or"
            + " there were not so many.");
        Pc32 x = with("");
        for (int back = -1; back < 17; back++) Expect.same("none at all", x.portWrite(back), -1);
        int[] ports = {0, 255, 1, 128, 127, 7};
        int[] values = {255, 0, 128, 1, 254};
        int[] log = new int[20];
        for (int n = 0; n < 20; n++) {
            int port = ports[n % 6];
            int value = values[n % 5];
            log[n] = port * 256 + value;
            x.poke(0, 0xE6 + 256 * port, 2);
            set(x, EIP, 0, EAX, 0xABCDEF00 | value);
            x.run(1);
            for (int back = -1; back < 17; back++) {
                boolean there = back >= 0 && back <= 15 && back <= n;
                Expect.same("after " + (n + 1) + ", back " + back, x.portWrite(back), there ? log[n - back] : -1);
            }
        }
        for (int back : new int[] {LEAST, -16, GREATEST, 16, 19, 20, 32}) Expect.same("back " + back, x.portWrite(back), -1);
    }

    // ---- promise 11 ----

    private static void translateWithoutAChange() {
        says("What the translation of a would give now, for writing if bit 0 of kind is 1, else for reading, at level 3 if bit 1 of kind is 1,"
            + " else 0; nothing changes.");
        for (int kind : new int[] {0, 1, 2, 3, 4, 5, 6, 7, -1, -2, -3, -4, LEAST, GREATEST, 0x7FFFFFFC}) {
            for (int rights = 0; rights < 8; rights++) {
                boolean right = (rights & 1) != 0 && ((kind & 1) == 0 || (rights & 2) != 0) && ((kind & 2) == 0 || (rights & 4) != 0);
                Pc32 x = new Pc32(4);
                x.poke(0x40, 0x57, 2);
                x.poke(0x50, 0xC0 | rights, 2);
                set(x, CR0, -1, CR3, 0x40, CR2, 5, CPL, 3 - (kind & 2));
                long[] before = seen(x);
                Expect.same("translate(3, " + kind + "), rights " + rights, x.translate(3, kind), right ? 0xC3 : -1);
                sameAsSeen("translate", x, before);
            }
        }
    }

    private static void translateAnswers() {
        says("-1: it would fault; -2: the physical address is S or more; else the address.");
        Pc32 x = new Pc32(4);
        int[][] off = {{0, 0}, {1, 1}, {255, 255}, {256, -2}, {1023, -2}, {1024, -2}, {GREATEST, -2}, {LEAST, -2}, {-1, -2}, {-2, -2}};
        for (int[] row : off) Expect.same("paging off, " + row[0], x.translate(row[0], 0), row[1]);
        x.poke(0x40, 0x57, 2);
        x.poke(0x50, 0x00C700070107C0C6L, 8);
        set(x, CR0, -1, CR3, 0x40);
        int[][] on = {{0, -1}, {63, -1}, {64, -2}, {127, -2}, {128, 0}, {191, 63}, {192, 0xC0}, {255, 255}, {256, -1}, {512, -1}, {4095, -1},
            {4096, -1}, {LEAST, -1}, {-1, -1}};
        for (int[] row : on) Expect.same("paging on, " + row[0], x.translate(row[0], 0), row[1]);
        Pc32 large = new Pc32(16);
        Expect.same("the last byte of 16 frames", large.translate(1023, 3), 1023);
        Expect.same("the byte after it", large.translate(1024, 3), -2);
    }

    // ---- promise 12 ----

    private static void resetKeepsMemory() {
        says("Everything as in a fresh object with the same frames, but memory stays.");
        Pc32 x = busy();
        x.irq(40);
        long[] before = memory(x);
        x.reset();
        fresh("reset", x);
        for (int back = 0; back < 16; back++) Expect.same("port write " + back, x.portWrite(back), -1);
        sameMemory("reset", x, before);
        has("S stays", x, SIZE, 256);
        Expect.same("paging is off", x.translate(255, 3), 255);
        Expect.yes("nothing is pending", x.irq(40));
        for (int status : STATUSES) {
            Pc32 y = inStatus(status);
            y.poke(100, 0x5A, 1);
            y.reset();
            fresh("reset from status " + status, y);
            Expect.same("memory", y.peek(100, 1), 0x5A);
            y.poke(0, 0x40, 1);
            Expect.same("it runs again", y.run(1), 1);
            has("it runs again", y, EAX, 1, EIP, 1);
        }
        for (int frames : new int[] {-1, 4, 7, 16, 99}) {
            Pc32 y = new Pc32(frames);
            int size = y.reg(SIZE);
            y.reset();
            has("the same frames", y, SIZE, size);
            Expect.yes("the last byte", y.poke(size - 1, 1, 1));
            Expect.no("the byte after it", y.poke(size, 1, 1));
        }
    }

    private static void portWritesAfterReset() {
        Pc32 x = with("E6 05 EB FC");
        x.run(50);
        x.reset();
        x.run(3);
        Expect.same("port writes since the reset", x.portWrites(), 2);
        Expect.same("the first", x.portWrite(1), 0x500);
        Expect.same("none from before", x.portWrite(2), -1);
    }

    // ---- promise 13 ----

    private static void whatStaysInShutdown() {
        says("A page fault sets CR2 = a also where the step ends in SHUTDOWN; what translations ORed into memory, and words that a delivery"
            + " pushed, stay there.");
        Pc32 x = paged(3, "8B 06", ESI, FREE + 1, EAX, 1);
        x.poke(28, 0, 2);
        x.poke(16, 0, 2);
        shutdown("14, 13, 13", x, FREE + 1);
        Expect.same("the fetch's mark", page(x, 0), 0x8F);
        Expect.same("D's mark", x.peek(DIRECTORY, 2), TABLE | 15);
        x = paged(3, "CD 20", CR5, 192 + 8, CR2, 9);
        x.poke(64, 0x8000 | 5, 2);
        page(x, 2, 0);
        shutdown("32, 14, 8 with half a stack", x, 188);
        pushedBelow("words that were pushed", x, 0x148, STACK_END, 0x3002);
        Expect.same("the stack's mark", page(x, 3), 0x15F);
        Expect.same("no mark where it faults", page(x, 2), 0);
        x = paged(0, "06", ESP, 0x12345678, CR2, 9);
        shutdown("6, 14, 14", x, 0x12345674);
        x = paged(0, "90", EIP, -5, ESP, 192 + 4, CR2, 9);
        page(x, 2, 0x105);
        shutdown("14 in the fetch, 14 in its delivery, 14 in that of 8", x, 188);
        pushedBelow("the first word", x, 0x144, 196);
    }

    private static void fault0HasNoErrorCode() {
        says("Fault 0 (of a division) is delivered without error code.");
        Pc32 x = flat(3, "F7 F9", EAX, 1, ECX, 0, FLAGS, IF);
        delivered("division by 0", x, 0, -1);
        has("three words", x, ESP, FLAT_KERNEL_STACK - 12);
        pushedBelow("three words", x, FLAT_KERNEL_STACK, FLAT_STACK, 0x3202, FLAT_CODE, 0);
        x = flat(0, "F7 3D 80 00 00 00", EAX, 0, EDX, 1);
        x.poke(0x80, 2, 4);
        delivered("a quotient of 2^31", x, 0, -1);
        has("three words", x, ESP, FLAT_STACK - 12);
    }

    public static void main(String[] args) {
        the512thCall();
        framesOutOfRange();
        freshObject();
        pokeStoresLowBytes();
        pokeRefused();
        pokeInEveryStatus();
        peekInsideAndOutside();
        setEveryRegister();
        levelByTwoBits();
        setRegRefused();
        setRegInEveryStatus();
        regOfEveryNumber();
        manyDeliveries();
        deliveriesBeyond16Bits();
        irqRefused();
        limitOutOfRange();
        runUntilNoneIsPossible();
        statuses();
        countOfPortWrites();
        portWritesBack();
        translateWithoutAChange();
        translateAnswers();
        resetKeepsMemory();
        portWritesAfterReset();
        whatStaysInShutdown();
        fault0HasNoErrorCode();
        Expect.end("PromiseEdgeTest");
    }
}
