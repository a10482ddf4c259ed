// A second reading of the document, written apart from Pc32 and in another manner (faults are exceptions, a fault restores
// a snapshot, operands are objects), to be compared with it.
final class ReferencePc {
    private static final class Fault extends Exception {
        private static final long serialVersionUID = 1L;
        final int vector;
        final int error;

        Fault(int vector, int error) {
            super(null, null, false, false);
            this.vector = vector;
            this.error = error;
        }
    }

    /** Where an operand lies: a register, or physical addresses once it has been translated. */
    private final class Place {
        boolean inRegister;
        int register;
        int linear;
        int bytes;
        int[] physical;

        long get() throws Fault {
            if (inRegister) return registerOf(bytes, register);
            if (physical == null) return readLinear(linear, bytes, cpl);
            return readPhysical(physical);
        }

        void claim() throws Fault {
            if (!inRegister) physical = translateAll(linear, bytes, true, cpl);
        }

        void set(long value) throws Fault {
            if (inRegister) {
                setRegisterOf(bytes, register, value);
                return;
            }
            if (physical == null) claim();
            writePhysical(physical, value);
        }
    }

    private final int s;
    private final int[] memory = new int[1024];
    private int[] general = new int[8];
    private int eip;
    private boolean cf, pf, zf, sf, intf, df, of;
    private boolean pg;
    private int cr2, cr3, cr4, cr5, cpl;
    private int status;
    private int pending;
    private int deliveries, lastVector, lastError;
    private final java.util.ArrayList<Integer> ports = new java.util.ArrayList<>();
    private int at;
    private boolean trapped;

    ReferencePc(int frames) {
        s = 64 * Math.max(4, Math.min(16, frames));
        reset();
    }

    void reset() {
        general = new int[8];
        eip = 0;
        setFlagsWord(0);
        pg = false;
        cr2 = cr3 = cr4 = cr5 = cpl = 0;
        status = 0;
        pending = lastVector = lastError = -1;
        deliveries = 0;
        ports.clear();
    }

    boolean poke(int address, long bytes, int count) {
        if (count < 1 || count > 8 || address < 0 || (long) address + count > s) return false;
        for (int i = 0; i < count; i++) memory[address + i] = (int) (bytes >> 8 * i) & 255;
        return true;
    }

    long peek(int address, int count) {
        if (count < 1 || count > 8 || address < 0 || (long) address + count > s) return 0;
        long value = 0;
        for (int i = count - 1; i >= 0; i--) value = value << 8 | memory[address + i];
        return value;
    }

    boolean setReg(int which, int value) {
        if (which < 0 || which > 15) return false;
        if (which <= 7) general[which] = value;
        if (which == 8) eip = value;
        if (which == 9) setFlagsWord(value);
        if (which == 10) writeControl(0, value);
        if (which >= 11 && which <= 14) writeControl(which - 9, value);
        if (which == 15) cpl = value % 4 == 0 ? 0 : 3;
        return true;
    }

    int reg(int which) {
        if (which >= 0 && which <= 7) return general[which];
        int[] rest = {eip, flagsWord(), readControl(0), cr2, cr3, cr4, cr5, cpl, pending, deliveries, lastVector, lastError, s};
        return which >= 8 && which <= 20 ? rest[which - 8] : 0;
    }

    boolean irq(int vector) {
        if (status == 2 || vector < 32 || vector > 47 || pending >= 0) return false;
        pending = vector;
        return true;
    }

    int run(int limit) {
        int done = 0;
        while (done < Math.min(limit, 200) && step()) done++;
        return done;
    }

    int status() {
        return status;
    }

    int portWrites() {
        return ports.size();
    }

    int portWrite(int back) {
        return back < 0 || back > 15 || back >= ports.size() ? -1 : ports.get(ports.size() - 1 - back);
    }

    int translate(int a, int kind) {
        try {
            long p = walk(a, (kind & 1) == 1, (kind & 2) == 2 ? 3 : 0, false);
            return p >= s ? -2 : (int) p;
        } catch (Fault fault) {
            return -1;
        }
    }

    // ---- flags and registers ----

    private int flagsWord() {
        return (cf ? 1 : 0) + 2 + (pf ? 4 : 0) + (zf ? 64 : 0) + (sf ? 128 : 0) + (intf ? 512 : 0) + (df ? 1024 : 0) + (of ? 2048 : 0);
    }

    private void setFlagsWord(int w) {
        cf = (w & 1) != 0;
        pf = (w & 4) != 0;
        zf = (w & 64) != 0;
        sf = (w & 128) != 0;
        intf = (w & 512) != 0;
        df = (w & 1024) != 0;
        of = (w & 2048) != 0;
    }

    private int readControl(int n) {
        return n == 0 ? (pg ? 1 << 31 : 0) : n == 2 ? cr2 : n == 3 ? cr3 : n == 4 ? cr4 : cr5;
    }

    private void writeControl(int n, int v) {
        if (n == 0) pg = v < 0;
        if (n == 2) cr2 = v;
        if (n == 3) cr3 = v & 0x3F0;
        if (n == 4) cr4 = v & 0x3FE;
        if (n == 5) cr5 = v;
    }

    private long registerOf(int bytes, int n) {
        if (bytes == 4) return general[n] & 0xFFFFFFFFL;
        return n < 4 ? general[n] & 255 : general[n - 4] >>> 8 & 255;
    }

    private void setRegisterOf(int bytes, int n, long value) {
        int v = (int) value;
        if (bytes == 4) general[n] = v;
        else if (n < 4) general[n] = general[n] & 0xFFFFFF00 | v & 255;
        else general[n - 4] = general[n - 4] & 0xFFFF00FF | (v & 255) << 8;
    }

    // ---- memory ----

    private int half(int address) {
        return address >= s ? 0 : memory[address] + 256 * memory[address + 1];
    }

    private void orHalf(int address, int bits) {
        int h = half(address) | bits;
        memory[address] = h & 255;
        memory[address + 1] = h >> 8;
    }

    private long walk(int a, boolean writing, int level, boolean real) throws Fault {
        if (!pg) return a & 0xFFFFFFFFL;
        int kind = (writing ? 2 : 0) + (level == 3 ? 4 : 0);
        int dAt = cr3 + 2 * (a >>> 9 & 7);
        int d = a >>> 12 == 0 ? half(dAt) : 0;
        int tAt = (d & 0x3F0) + 2 * (a >>> 6 & 7);
        int t = d % 2 == 1 ? half(tAt) : 0;
        int p = -1;
        if (t % 2 == 0) p = 0;
        else if (level == 3 && ((d & 4) == 0 || (t & 4) == 0)) p = 1;
        else if (writing && ((d & 2) == 0 || (t & 2) == 0)) p = 1;
        if (p >= 0) {
            if (real) cr2 = a;
            throw new Fault(14, p + kind);
        }
        if (real) {
            orHalf(dAt, 8);
            orHalf(tAt, writing ? 24 : 8);
        }
        return (t & 0x3C0) + (a & 63);
    }

    private int[] translateAll(int a, int bytes, boolean writing, int level) throws Fault {
        int[] physical = new int[bytes];
        for (int i = 0; i < bytes; i++) physical[i] = (int) walk(a + i, writing, level, true);
        return physical;
    }

    private long readPhysical(int[] physical) {
        long value = 0;
        for (int i = physical.length - 1; i >= 0; i--) {
            value = value * 256 + (Integer.compareUnsigned(physical[i], s) < 0 ? memory[physical[i]] : 255);
        }
        return value;
    }

    private void writePhysical(int[] physical, long value) {
        for (int p : physical) {
            if (Integer.compareUnsigned(p, s) < 0) memory[p] = (int) (value & 255);
            value >>= 8;
        }
    }

    private long readLinear(int a, int bytes, int level) throws Fault {
        return readPhysical(translateAll(a, bytes, false, level));
    }

    private void writeLinear(int a, int bytes, long value, int level) throws Fault {
        writePhysical(translateAll(a, bytes, true, level), value);
    }

    // ---- a step ----

    private boolean step() {
        if (status == 2) return false;
        if (pending >= 0 && intf) {
            int v = pending;
            status = 0;
            pending = -1;
            deliver(v, -1, eip, eip);
            return true;
        }
        if (status == 1) return false;
        int start = eip;
        int[] generalBefore = general.clone();
        int flagsBefore = flagsWord();
        int cplBefore = cpl;
        trapped = false;
        try {
            at = eip;
            instruction();
            if (!trapped) eip = at;
        } catch (Fault fault) {
            general = generalBefore;
            setFlagsWord(flagsBefore);
            cpl = cplBefore;
            eip = start;
            deliver(fault.vector, fault.error, start, start);
        }
        return true;
    }

    private void deliver(int v, int error, int back, int start) {
        try {
            int e = half(cr4 + 2 * v) & 0x7FFF;
            if (e == 0) throw new Fault(13, 8 * v + 2);
            int sp = cpl == 3 ? cr5 : general[4];
            writeLinear(sp - 4, 4, general[4], 0);
            writeLinear(sp - 8, 4, flagsWord() | cpl << 12, 0);
            writeLinear(sp - 12, 4, back, 0);
            if (error >= 0) writeLinear(sp - 16, 4, error, 0);
            general[4] = error >= 0 ? sp - 16 : sp - 12;
            eip = e;
            cpl = 0;
            intf = false;
            deliveries++;
            lastVector = v;
            lastError = error;
        } catch (Fault fault) {
            if (v == 8) status = 2;
            else if (v < 32) deliver(8, 0, start, start);
            else deliver(fault.vector, fault.error, start, start);
        }
    }

    private int next8() throws Fault {
        int value = (int) readLinear(at, 1, cpl);
        at++;
        return value;
    }

    private int next8s() throws Fault {
        return (byte) next8();
    }

    private int next32() throws Fault {
        int a = next8();
        int b = next8();
        int c = next8();
        return a + (b << 8) + (c << 16) + (next8() << 24);
    }

    private void supervisor() throws Fault {
        if (cpl == 3) throw new Fault(13, 0);
    }

    private static Fault invalid() {
        return new Fault(6, -1);
    }

    private int modRm, regOf;

    /** Reads the ModRM byte and what belongs to it; allowed has the reg fields that may stand there. */
    private Place place(int bytes, String allowed) throws Fault {
        return place(bytes, allowed, true);
    }

    private Place place(int bytes, String allowed, boolean registersToo) throws Fault {
        modRm = next8();
        regOf = modRm / 8 % 8;
        int mod = modRm / 64;
        int rm = modRm % 8;
        if (allowed.indexOf('0' + regOf) < 0) throw invalid();
        if (mod == 3 && !registersToo) throw invalid();
        Place place = new Place();
        place.bytes = bytes;
        if (mod == 3) {
            place.inRegister = true;
            place.register = rm;
            return place;
        }
        int sum = 0;
        int base = rm;
        if (rm == 4) {
            int sib = next8();
            base = sib % 8;
            int index = sib / 8 % 8;
            if (index != 4) sum += general[index] * (1 << sib / 64);
        }
        if (base == 5 && mod == 0) {
            sum += next32();
        } else {
            sum += general[base];
            if (mod == 1) sum += next8s();
            if (mod == 2) sum += next32();
        }
        place.linear = sum;
        return place;
    }

    private static final String ANY = "01234567";

    // ---- instructions ----

    private void instruction() throws Fault {
        int start = at;
        int op = next8();
        if (op < 0x40 && op % 8 < 6) {
            aluRow(op);
        } else if (op >= 0x40 && op < 0x50) {
            general[op % 8] = (int) incDec(general[op % 8], op >= 0x48);
        } else if (op >= 0x50 && op < 0x58) {
            push(general[op % 8]);
        } else if (op >= 0x58 && op < 0x60) {
            int v = pop();
            general[op % 8] = v;
        } else if (op >= 0x70 && op < 0x80) {
            int d = next8s();
            if (condition(op % 16)) at += d;
        } else if (op >= 0xB0 && op < 0xB8) {
            setRegisterOf(1, op % 8, next8());
        } else if (op >= 0xB8 && op < 0xC0) {
            general[op % 8] = next32();
        } else {
            other(op, start);
        }
    }

    private void other(int op, int start) throws Fault {
        int d;
        Place p;
        switch (op) {
            case 0x0F: twoBytes(); break;
            case 0xF3:
                int second = next8();
                if (second != 0xA4 && second != 0xAA) throw invalid();
                if (general[1] == 0) break;
                string(second);
                general[1]--;
                if (general[1] != 0) at = start;
                break;
            case 0x68: push(next32()); break;
            case 0x6A: push(next8s()); break;
            case 0x80: p = place(1, ANY); alu(regOf, p, next8()); break;
            case 0x81: p = place(4, ANY); alu(regOf, p, next32()); break;
            case 0x83: p = place(4, ANY); alu(regOf, p, next8s()); break;
            case 0x84: case 0x85:
                p = place(op == 0x84 ? 1 : 4, ANY);
                logic(p.get() & registerOf(p.bytes, regOf), p.bytes);
                break;
            case 0x88: p = place(1, ANY); p.set(registerOf(1, regOf)); break;
            case 0x89: p = place(4, ANY); p.set(registerOf(4, regOf)); break;
            case 0x8A: p = place(1, ANY); setRegisterOf(1, regOf, p.get()); break;
            case 0x8B: p = place(4, ANY); setRegisterOf(4, regOf, p.get()); break;
            case 0x8D: p = place(4, ANY, false); general[regOf] = p.linear; break;
            case 0x90: break;
            case 0x99: general[2] = general[0] < 0 ? -1 : 0; break;
            case 0xA4: case 0xAA: string(op); break;
            case 0xC1: p = place(4, "457"); shift(p, next8()); break;
            case 0xD1: p = place(4, "457"); shift(p, 1); break;
            case 0xD3: p = place(4, "457"); shift(p, general[1] & 255); break;
            case 0xC3: at = pop(); break;
            case 0xC6: p = place(1, "0"); p.set(next8()); break;
            case 0xC7: p = place(4, "0"); p.set(next32()); break;
            case 0xCC: interrupt(3); break;
            case 0xCD: interrupt(next8()); break;
            case 0xE8: d = next32(); push(at); at += d; break;
            case 0xE9: d = next32(); at += d; break;
            case 0xEB: d = next8s(); at += d; break;
            case 0xF7: f7(); break;
            case 0xFF: ff(); break;
            case 0xF5: cf = !cf; break;
            case 0xF8: cf = false; break;
            case 0xF9: cf = true; break;
            case 0xFC: df = false; break;
            case 0xFD: df = true; break;
            default: privileged(op);
        }
    }

    private void privileged(int op) throws Fault {
        switch (op) {
            case 0xFA: supervisor(); intf = false; break;
            case 0xFB: supervisor(); intf = true; break;
            case 0xE6: int port = next8(); supervisor(); ports.add(port * 256 + (general[0] & 255)); break;
            case 0xF4: supervisor(); status = 1; break;
            case 0xCF:
                supervisor();
                int first = (int) readLinear(general[4], 4, cpl);
                int flags = (int) readLinear(general[4] + 4, 4, cpl);
                int third = (int) readLinear(general[4] + 8, 4, cpl);
                at = first;
                setFlagsWord(flags);
                cpl = (flags >> 12 & 3) != 0 ? 3 : 0;
                general[4] = third;
                break;
            default: throw invalid();
        }
    }

    private void twoBytes() throws Fault {
        int op = next8();
        Place p;
        if (op / 16 == 8) {
            int d = next32();
            if (condition(op % 16)) at += d;
        } else if (op / 16 == 9) {
            p = place(1, ANY);
            p.set(condition(op % 16) ? 1 : 0);
        } else if (op == 0xB6) {
            p = place(1, ANY);
            general[regOf] = (int) p.get();
        } else if (op == 0xAF) {
            p = place(4, ANY);
            long product = (long) general[regOf] * (int) p.get();
            general[regOf] = (int) product;
            cf = of = product > Integer.MAX_VALUE || product < Integer.MIN_VALUE;
            zsp(product, 4);
        } else if (op == 0x20 || op == 0x22) {
            int m = next8();
            if (m < 0xC0 || "02345".indexOf('0' + m / 8 % 8) < 0) throw invalid();
            supervisor();
            if (op == 0x20) general[m % 8] = readControl(m / 8 % 8);
            else writeControl(m / 8 % 8, general[m % 8]);
        } else {
            throw invalid();
        }
    }

    private void f7() throws Fault {
        Place p = place(4, "2347");
        if (regOf == 2 || regOf == 3) p.claim();
        long v = p.get();
        if (regOf == 2) {
            p.set(~v);
        } else if (regOf == 3) {
            p.set(subtract(0, v, 4, 0));
        } else if (regOf == 4) {
            java.math.BigInteger product = java.math.BigInteger.valueOf(registerOf(4, 0)).multiply(java.math.BigInteger.valueOf(v));
            general[0] = product.intValue();
            general[2] = product.shiftRight(32).intValue();
            cf = of = general[2] != 0;
            zsp(general[0], 4);
        } else {
            java.math.BigInteger dividend = java.math.BigInteger.valueOf(general[2]).shiftLeft(32)
                .add(java.math.BigInteger.valueOf(registerOf(4, 0)));
            if (v == 0) throw new Fault(0, -1);
            java.math.BigInteger[] both = dividend.divideAndRemainder(java.math.BigInteger.valueOf((int) v));
            if (both[0].bitLength() > 31) throw new Fault(0, -1);
            general[0] = both[0].intValue();
            general[2] = both[1].intValue();
        }
    }

    private void ff() throws Fault {
        Place p = place(4, "01246");
        int kind = regOf;
        if (kind < 2) {
            p.claim();
            p.set(incDec((int) p.get(), kind == 1));
            return;
        }
        int v = (int) p.get();
        if (kind == 2) push(at);
        if (kind == 6) push(v);
        else at = v;
    }

    private void push(int v) throws Fault {
        writeLinear(general[4] - 4, 4, v, cpl);
        general[4] -= 4;
    }

    private int pop() throws Fault {
        int v = (int) readLinear(general[4], 4, cpl);
        general[4] += 4;
        return v;
    }

    private void string(int op) throws Fault {
        int by = df ? -1 : 1;
        long v = op == 0xA4 ? readLinear(general[6], 1, cpl) : general[0];
        writeLinear(general[7], 1, v, cpl);
        if (op == 0xA4) general[6] += by;
        general[7] += by;
    }

    private void interrupt(int v) throws Fault {
        if (cpl == 3 && half(cr4 + 2 * v) < 0x8000) throw new Fault(13, 8 * v + 2);
        deliver(v, -1, at, eip);
        trapped = true;
    }

    private boolean condition(int c) {
        boolean[] all = {of, cf, zf, cf | zf, sf, pf, sf ^ of, zf | sf ^ of};
        return all[c / 2] ^ c % 2 == 1;
    }

    private void aluRow(int op) throws Fault {
        int bytes = op % 2 == 0 ? 1 : 4;
        int k = op / 8;
        if (op % 8 < 2) {
            Place p = place(bytes, ANY);
            alu(k, p, registerOf(bytes, regOf));
        } else if (op % 8 < 4) {
            Place source = place(bytes, ANY);
            Place d = new Place();
            d.inRegister = true;
            d.register = regOf;
            d.bytes = bytes;
            alu(k, d, source.get());
        } else {
            Place d = new Place();
            d.inRegister = true;
            d.bytes = bytes;
            alu(k, d, bytes == 1 ? next8() : next32());
        }
    }

    private void alu(int k, Place d, long source) throws Fault {
        int bytes = d.bytes;
        long mask = (1L << 8 * bytes) - 1;
        long s0 = source & mask;
        if (k != 7) d.claim();
        long d0 = d.get() & mask;
        long r;
        switch (k) {
            case 0: r = add(d0, s0, bytes, 0); break;
            case 1: r = logic(d0 | s0, bytes); break;
            case 2: r = add(d0, s0, bytes, cf ? 1 : 0); break;
            case 3: r = subtract(d0, s0, bytes, cf ? 1 : 0); break;
            case 4: r = logic(d0 & s0, bytes); break;
            case 6: r = logic(d0 ^ s0, bytes); break;
            default: r = subtract(d0, s0, bytes, 0);
        }
        if (k != 7) d.set(r);
    }

    private long logic(long r, int bytes) {
        cf = of = false;
        zsp(r, bytes);
        return r;
    }

    private long add(long d, long s0, int bytes, int carry) {
        long r = d + s0 + carry;
        cf = r >> 8 * bytes != 0;
        long top = 1L << 8 * bytes - 1;
        of = ((d ^ r) & (s0 ^ r) & top) != 0;
        zsp(r, bytes);
        return r;
    }

    private long subtract(long d, long s0, int bytes, int borrow) {
        long r = d - s0 - borrow;
        cf = r < 0;
        long top = 1L << 8 * bytes - 1;
        of = ((d ^ s0) & (d ^ r) & top) != 0;
        zsp(r, bytes);
        return r;
    }

    private long incDec(int v, boolean down) {
        boolean old = cf;
        long d = v & 0xFFFFFFFFL;
        long r = down ? subtract(d, 1, 4, 0) : add(d, 1, 4, 0);
        cf = old;
        return r;
    }

    private void zsp(long r, int bytes) {
        long mask = (1L << 8 * bytes) - 1;
        zf = (r & mask) == 0;
        sf = (r >> 8 * bytes - 1 & 1) == 1;
        pf = Long.bitCount(r & 255) % 2 == 0;
    }

    private void shift(Place p, int count) throws Fault {
        int kind = regOf;
        p.claim();
        int v = (int) p.get();
        int by = count & 31;
        boolean top = v < 0;
        for (int i = 0; i < by; i++) {
            cf = kind == 4 ? v < 0 : (v & 1) == 1;
            v = kind == 4 ? v * 2 : kind == 5 ? v >>> 1 : v >> 1;
        }
        if (by > 0) {
            of = kind == 4 ? v < 0 ^ cf : kind == 5 && top;
            zsp(v, 4);
        }
        p.set(v);
    }
}
