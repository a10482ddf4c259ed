// What the tests share: machines with a known layout, and comparisons of many registers at once.
class Bench {
    static final int CF = 1, PF = 4, ZF = 64, SF = 128, IF = 512, DF = 1024, OF = 2048;
    static final int ALL_FLAGS = CF | PF | ZF | SF | IF | DF | OF;
    static final int EAX = 0, ECX = 1, EDX = 2, EBX = 3, ESP = 4, EBP = 5, ESI = 6, EDI = 7, EIP = 8, FLAGS = 9;
    static final int CR0 = 10, CR2 = 11, CR3 = 12, CR4 = 13, CR5 = 14, CPL = 15;
    static final int PENDING = 16, DELIVERIES = 17, VECTOR = 18, ERROR = 19, SIZE = 20;

    // The layout of the machines that paged makes: interrupt table at physical 0, directory at 200h, page table at 210h.
    // Linear pages (64 bytes each) 0: code at physical 80h, 1: data at C0h, 2: data at 100h, 3: kernel stack at 140h, 4: free.
    static final int DIRECTORY = 0x200, TABLE = 0x210;
    static final int CODE = 0, DATA = 64, NEXT_DATA = 128, STACK_END = 256, FREE = 256;

    // The layout of the machines that flat makes: code at 40h, stacks below 180h and 1C0h, interrupt table at 200h to the end.
    static final int FLAT_CODE = 0x40, FLAT_STACK = 0x180, FLAT_KERNEL_STACK = 0x1C0, FLAT_TABLE = 0x200;

    /** Names the sentence of the document that the answers from here on are about. */
    static void says(String sentence) {
        Document.says(sentence);
    }

    static String imm(int value, int bytes) {
        StringBuilder hex = new StringBuilder();
        for (int i = 0; i < bytes; i++) hex.append(String.format("%02X", (value >>> (8 * i)) & 255));
        return hex.toString();
    }

    static int lengthOf(String hex) {
        return hex.replace(" ", "").length() / 2;
    }

    static void set(Pc32 x, int... registersAndValues) {
        for (int i = 0; i + 1 < registersAndValues.length; i += 2) x.setReg(registersAndValues[i], registersAndValues[i + 1]);
    }

    static void has(String what, Pc32 x, int... registersAndValues) {
        for (int i = 0; i + 1 < registersAndValues.length; i += 2) {
            Expect.same(what + ": reg " + registersAndValues[i], x.reg(registersAndValues[i]), registersAndValues[i + 1]);
        }
    }

    static long[] memory(Pc32 x) {
        long[] all = new long[x.reg(SIZE) / 8];
        for (int i = 0; i < all.length; i++) all[i] = x.peek(8 * i, 8);
        return all;
    }

    static void sameMemory(String what, Pc32 x, long[] before) {
        long[] after = memory(x);
        Expect.same(what + ": memory's length", after.length, before.length);
        for (int i = 0; i < before.length; i++) Expect.same(what + ": memory at " + 8 * i, after[i], before[i]);
    }

    // ---- paging off ----

    /** The program at 0, no interrupt table: for steps that do not fault. */
    static Pc32 with(String hex, int... registersAndValues) {
        Pc32 x = new Pc32(16);
        Expect.load(x, 0, hex);
        x.setReg(ESP, 0x300);
        set(x, registersAndValues);
        return x;
    }

    static Pc32 ran(String hex, int... registersAndValues) {
        Pc32 x = with(hex, registersAndValues);
        Expect.same(hex + ": run", x.run(1), 1);
        Expect.same(hex + ": no delivery", x.reg(DELIVERIES), 0);
        Expect.same(hex + ": no shutdown", x.status() == Pc32.SHUTDOWN ? 1 : 0, 0);
        return x;
    }

    static int handler(int vector) {
        return 0x1000 + vector;
    }

    /** Four entries in one call, since the document promises nothing after an object's 512th call. */
    private static long fourHandlers(int first) {
        long entries = 0;
        for (int i = 3; i >= 0; i--) entries = (entries << 16) | handler(first + i);
        return entries;
    }

    /** The program at FLAT_CODE, with an entry for every vector, none of which CPL 3 may use by INT. */
    static Pc32 flat(int cpl, String hex, int... registersAndValues) {
        Pc32 x = new Pc32(16);
        for (int v = 0; v < 256; v += 4) x.poke(FLAT_TABLE + 2 * v, fourHandlers(v), 8);
        Expect.load(x, FLAT_CODE, hex);
        set(x, EIP, FLAT_CODE, ESP, FLAT_STACK, CR4, FLAT_TABLE, CR5, FLAT_KERNEL_STACK, CPL, cpl);
        set(x, registersAndValues);
        return x;
    }

    static void flatEntry(Pc32 x, int vector, int halfWord) {
        x.poke(FLAT_TABLE + 2 * vector, halfWord, 2);
    }

    // ---- paging on ----

    static Pc32 paged(int cpl, String hex, int... registersAndValues) {
        Pc32 x = new Pc32(16);
        for (int v = 0; v < 48; v += 4) x.poke(2 * v, fourHandlers(v), 8);
        x.poke(DIRECTORY, TABLE | 7, 2);
        for (int page = 0; page < 4; page++) x.poke(TABLE + 2 * page, 0x80 + 64 * page + 7, 2);
        Expect.load(x, 0x80, hex);
        set(x, CR3, DIRECTORY, CR5, STACK_END, ESP, STACK_END, CPL, cpl, CR0, 0x80000000);
        set(x, registersAndValues);
        return x;
    }

    static void pagedEntry(Pc32 x, int vector, int halfWord) {
        x.poke(2 * vector, halfWord, 2);
    }

    static void page(Pc32 x, int number, int entry) {
        x.poke(TABLE + 2 * number, entry, 2);
    }

    static int page(Pc32 x, int number) {
        return (int) x.peek(TABLE + 2 * number, 2);
    }

    // ---- deliveries ----

    static void delivered(String what, Pc32 x, int vector, int error) {
        Expect.same(what + ": run", x.run(1), 1);
        has(what, x, DELIVERIES, 1, VECTOR, vector, ERROR, error, EIP, handler(vector), CPL, 0);
    }

    static void notDelivered(String what, Pc32 x) {
        Expect.same(what + ": run", x.run(1), 1);
        has(what, x, DELIVERIES, 0);
        Expect.no(what + ": shutdown", x.status() == Pc32.SHUTDOWN);
    }

    /** The words on the kernel stack of a paged machine, from the first that was pushed. */
    static void pushed(String what, Pc32 x, int... words) {
        pushedBelow(what, x, 0x140 + 64, words);
    }

    /** The words below a physical address, from the first that was pushed. */
    static void pushedBelow(String what, Pc32 x, int end, int... words) {
        for (int i = 0; i < words.length; i++) {
            Expect.same(what + ": word " + i, (int) x.peek(end - 4 - 4 * i, 4), words[i]);
        }
    }

    static void shutdown(String what, Pc32 x, int cr2) {
        int[] before = new int[20];
        for (int i = 0; i < 20; i++) before[i] = x.reg(i);
        Expect.same(what + ": the step counts", x.run(5), 1);
        Expect.same(what + ": status", x.status(), Pc32.SHUTDOWN);
        for (int i = 0; i < 20; i++) Expect.same(what + ": reg " + i, x.reg(i), i == CR2 ? cr2 : before[i]);
    }
}
