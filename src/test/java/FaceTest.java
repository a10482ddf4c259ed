// Promises 1 to 6, 8 to 10 and 12: what the calls beside run and translate answer, with their edges and wrong inputs.
public final class FaceTest {
    private static void promise1NewObject() {
        int[][] framesAndSize = {{Integer.MIN_VALUE, 256}, {-1, 256}, {0, 256}, {3, 256}, {4, 256}, {5, 320}, {15, 960},
            {16, 1024}, {17, 1024}, {Integer.MAX_VALUE, 1024}};
        for (int[] pair : framesAndSize) {
            Pc32 x = new Pc32(pair[0]);
            Expect.same("size for " + pair[0] + " frames", x.reg(20), pair[1]);
            fresh("new object", x);
            for (int at = 0; at < pair[1]; at += 8) Expect.same("memory at " + at, x.peek(at, 8), 0);
        }
        Expect.same("RUNNING", Pc32.RUNNING, 0);
        Expect.same("HALTED", Pc32.HALTED, 1);
        Expect.same("SHUTDOWN", Pc32.SHUTDOWN, 2);
    }

    private static void fresh(String when, Pc32 x) {
        for (int i = 0; i < 16; i++) Expect.same(when + ": reg " + i, x.reg(i), i == 9 ? 2 : 0);
        Expect.same(when + ": pending", x.reg(16), -1);
        Expect.same(when + ": deliveries", x.reg(17), 0);
        Expect.same(when + ": last vector", x.reg(18), -1);
        Expect.same(when + ": last error", x.reg(19), -1);
        Expect.same(when + ": status", x.status(), Pc32.RUNNING);
        Expect.same(when + ": portWrites", x.portWrites(), 0);
        for (int i = 0; i < 16; i++) Expect.same(when + ": portWrite", x.portWrite(i), -1);
    }

    private static void promises2And3PokeAndPeek() {
        Pc32 x = new Pc32(4);
        Expect.yes("poke of 8", x.poke(8, 0xF1E2D3C4B5A69788L, 8));
        Expect.same("peek of 8", x.peek(8, 8), 0xF1E2D3C4B5A69788L);
        for (int count = 1; count < 8; count++) {
            Expect.same("peek of " + count, x.peek(8, count), 0xF1E2D3C4B5A69788L & ((1L << (8 * count)) - 1));
        }
        Expect.same("lowest byte first", x.peek(9, 2), 0xA697);
        Expect.yes("poke of 3", x.poke(9, -1L, 3));
        Expect.same("other bytes stay", x.peek(8, 8), 0xF1E2D3C4FFFFFF88L);
        Expect.yes("poke of the last byte", x.poke(255, 0x1FE, 1));
        Expect.same("peek of the last byte", x.peek(255, 1), 0xFE);
        Expect.yes("poke up to the end", x.poke(248, 1, 8));
        int[][] wrong = {{0, 0}, {0, -1}, {0, 9}, {-1, 1}, {-1, 2}, {249, 8}, {255, 2}, {256, 1}, {257, 1}, {Integer.MAX_VALUE, 8},
            {Integer.MAX_VALUE, 1}, {Integer.MIN_VALUE, 1}, {0, Integer.MAX_VALUE}, {0, Integer.MIN_VALUE}, {8, Integer.MIN_VALUE}};
        for (int[] pair : wrong) {
            Expect.no("poke(" + pair[0] + ", -1, " + pair[1] + ")", x.poke(pair[0], -1L, pair[1]));
            Expect.same("peek(" + pair[0] + ", " + pair[1] + ")", x.peek(pair[0], pair[1]), 0);
        }
        Expect.same("nothing changed below", x.peek(0, 8), 0);
        Expect.same("nothing changed above", x.peek(248, 8), 1);
    }

    private static void promises4And5Registers() {
        Pc32 x = new Pc32(16);
        int[] all = {-1, -1, -1, -1, -1, -1, -1, -1, -1, 0xEC7, 0x80000000, -1, 0x3F0, 0x3FE, -1, 3};
        for (int i = 0; i < 16; i++) {
            Expect.yes("setReg " + i, x.setReg(i, -1));
            Expect.same("reg " + i + " of -1", x.reg(i), all[i]);
            for (int j = i + 1; j < 16; j++) Expect.same("later reg untouched", x.reg(j), j == 9 ? 2 : 0);
        }
        for (int i = 0; i < 16; i++) Expect.yes("setReg " + i, x.setReg(i, 0));
        for (int i = 0; i < 16; i++) Expect.same("reg " + i + " of 0", x.reg(i), i == 9 ? 2 : 0);
        int[] flags = {1, 4, 64, 128, 512, 1024, 2048};
        for (int flag : flags) {
            x.setReg(9, flag);
            Expect.same("flag " + flag, x.reg(9), flag | 2);
        }
        x.setReg(9, ~0xEC5);
        Expect.same("other bits are passed over", x.reg(9), 2);
        x.setReg(10, 0x7FFFFFFF);
        Expect.same("CR0 without PG", x.reg(10), 0);
        int[][] levels = {{0, 0}, {1, 3}, {2, 3}, {3, 3}, {4, 0}, {5, 3}, {-4, 0}, {-1, 3}};
        for (int[] pair : levels) {
            x.setReg(15, pair[0]);
            Expect.same("CPL of " + pair[0], x.reg(15), pair[1]);
        }
    }

    private static void promises4And5WrongNumbers() {
        Pc32 x = new Pc32(16);
        int[] wrong = {-1, 16, 17, 18, 19, 20, 21, 24, 100, Integer.MAX_VALUE, Integer.MIN_VALUE};
        for (int which : wrong) Expect.no("setReg " + which, x.setReg(which, 5));
        fresh("after wrong setReg", x);
        int[] nothing = {-1, 21, 22, 100, Integer.MAX_VALUE, Integer.MIN_VALUE};
        for (int which : nothing) Expect.same("reg " + which, x.reg(which), 0);
        Expect.same("S", x.reg(20), 1024);
    }

    private static void promise6Irq() {
        for (int vector = 30; vector < 50; vector++) {
            Pc32 x = new Pc32(16);
            boolean right = vector >= 32 && vector <= 47;
            Expect.same("irq " + vector, x.irq(vector) ? 1 : 0, right ? 1 : 0);
            Expect.same("pending", x.reg(16), right ? vector : -1);
            Expect.same("second irq", x.irq(40) ? 1 : 0, right ? 0 : 1);
            Expect.same("pending stays", x.reg(16), right ? vector : 40);
        }
        Pc32 x = new Pc32(16);
        Expect.no("irq -1", x.irq(-1));
        Expect.no("irq least", x.irq(Integer.MIN_VALUE));
        Expect.no("irq greatest", x.irq(Integer.MAX_VALUE));
        Expect.load(x, 0, "F4");
        Expect.same("run to HLT", x.run(5), 1);
        Expect.yes("irq while HALTED", x.irq(32));
    }

    private static void promise8StatusAndShutdown() {
        Pc32 x = new Pc32(16);
        Expect.load(x, 0, "F4");
        Expect.same("RUNNING", x.status(), 0);
        x.run(1);
        Expect.same("HALTED", x.status(), 1);
        x.setReg(0, 9);
        x.poke(0, 0x06, 1);
        x.setReg(8, 0);
        Expect.same("setReg and poke leave the status", x.status(), 1);
        Expect.same("no step", x.run(9), 0);
        x.reset();
        Expect.same("the step to SHUTDOWN counts", x.run(9), 1);
        Expect.same("SHUTDOWN", x.status(), 2);
        Expect.no("irq in SHUTDOWN", x.irq(32));
        Expect.same("nothing pending", x.reg(16), -1);
        Expect.yes("poke in SHUTDOWN", x.poke(0, 0x90, 1));
        Expect.yes("setReg in SHUTDOWN", x.setReg(8, 0));
        Expect.yes("setReg of flags in SHUTDOWN", x.setReg(9, 512));
        Expect.same("no step in SHUTDOWN", x.run(9), 0);
        Expect.same("still SHUTDOWN", x.status(), 2);
        x.reset();
        Expect.same("after reset", x.run(9), 9);
    }

    private static void shutdownKeepsWhatIsPending() {
        Pc32 x = new Pc32(16);
        Expect.load(x, 0, "06");
        x.irq(35);
        Expect.same("run", x.run(1), 1);
        Expect.same("SHUTDOWN", x.status(), 2);
        Expect.same("still pending, for IF was 0", x.reg(16), 35);
        x.setReg(9, 512);
        Expect.same("no interrupt in SHUTDOWN", x.run(1), 0);
    }

    private static void promises9And10PortWrites() {
        Pc32 x = new Pc32(16);
        // OUT FFh, AL; INC EAX; JMP back
        Expect.load(x, 0, "E6 FF 40 EB FB");
        x.setReg(0, 0x12345600);
        for (int i = 0; i < 20; i++) {
            x.run(3);
            Expect.same("portWrites", x.portWrites(), i + 1);
            Expect.same("latest", x.portWrite(0), 0xFF00 + i);
            Expect.same("first", x.portWrite(i), i > 15 ? -1 : 0xFF00);
            Expect.same("before the first", x.portWrite(i + 1), -1);
        }
        for (int back = 0; back < 16; back++) Expect.same("portWrite " + back, x.portWrite(back), 0xFF00 + 19 - back);
        int[] wrong = {-1, 16, 17, 19, Integer.MAX_VALUE, Integer.MIN_VALUE};
        for (int back : wrong) Expect.same("portWrite " + back, x.portWrite(back), -1);
        x.setReg(0, 0xFFFFFFFF);
        x.poke(0, 0x00E6, 2);
        x.setReg(8, 0);
        x.run(1);
        Expect.same("port 0, value 255", x.portWrite(0), 255);
        Expect.same("the one before", x.portWrite(1), 0xFF00 + 19);
    }

    private static void promise12Reset() {
        Pc32 x = new Pc32(5);
        for (int i = 0; i < 16; i++) x.setReg(i, i == 10 ? 0 : 64);
        x.setReg(9, 0xFFF);
        x.setReg(15, 0);
        // INT 3 through the table at 64, then OUT, then HLT
        Expect.load(x, 64, "CC");
        x.poke(64 + 6, 100, 2);
        Expect.load(x, 100, "E6 07 F4");
        x.setReg(4, 256);
        x.run(3);
        x.irq(33);
        Expect.same("deliveries", x.reg(17), 1);
        Expect.same("HALTED", x.status(), 1);
        Expect.same("port write", x.portWrite(0), 0x0740);
        x.setReg(10, -1);
        x.setReg(15, 3);
        long program = x.peek(100, 3);
        x.reset();
        fresh("reset", x);
        Expect.same("S stays", x.reg(20), 320);
        Expect.same("memory stays", x.peek(100, 3), program);
        Expect.same("stack stays", x.peek(252, 4), 256);
        Expect.yes("irq after reset", x.irq(34));
    }

    public static void main(String[] args) {
        promise1NewObject();
        promises2And3PokeAndPeek();
        promises4And5Registers();
        promises4And5WrongNumbers();
        promise6Irq();
        promise8StatusAndShutdown();
        shutdownKeepsWhatIsPending();
        promises9And10PortWrites();
        promise12Reset();
        Expect.end("FaceTest");
    }
}
