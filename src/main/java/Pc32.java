// A small 32-bit personal computer. A step never changes a register before everything that can fault has been done:
// the instruction is fetched, then its one read is made, then its one write is mapped, and only then it is executed.
// So a fault has nothing to undo.
public final class Pc32 {
    public static final int RUNNING = 0, HALTED = 1, SHUTDOWN = 2;

    private static final int NONE = -1;

    private static final int FRAME_BYTES = 64;
    private static final int MIN_FRAMES = 4;
    private static final int MAX_FRAMES = 16;
    private static final int MAX_BYTES = FRAME_BYTES * MAX_FRAMES;
    private static final int MAX_STEPS = 200;
    private static final int PORT_LOG = 16;

    private static final int EAX = 0, ECX = 1, EDX = 2, ESP = 4, ESI = 6, EDI = 7;

    private static final int CF = 1, PF = 4, ZF = 64, SF = 128, IF = 512, DF = 1024, OF = 2048;
    private static final int RESULT_FLAGS = CF | PF | ZF | SF | OF;
    private static final int ALL_FLAGS = RESULT_FLAGS | IF | DF;
    private static final int FIXED_FLAGS = 2;

    private static final int PAGING_BIT = 0x80000000;
    private static final int CR3_MASK = 0x3F0;
    private static final int CR4_MASK = 0x3FE;

    private static final int DIVIDE_FAULT = 0, INVALID_FAULT = 6, DOUBLE_FAULT = 8, PROTECTION_FAULT = 13, PAGE_FAULT = 14;
    private static final int FIRST_FREE_VECTOR = 32;

    // What a look-up answers for a page fault with P = 0 and with P = 1.
    private static final long ABSENT = -1, FORBIDDEN = -2;

    // Added to the byte that follows 0F or F3, so that one number names every opcode.
    private static final int AFTER_0F = 0x100, AFTER_F3 = 0x200;

    private static final int ADD = 0, OR = 1, ADC = 2, SBB = 3, AND = 4, SUB = 5, CMP = 7;

    private static final int UNUSED = 0, READ = 1, WRITTEN = 2, CHANGED = 3;

    private static final int UNKNOWN = 0,
        ALU_RM_REG = 1, ALU_REG_RM = 2, ALU_ACC_IMM = 3, ALU_RM_IMM = 4, TEST = 5,
        INC_DEC_REG = 6, INC_DEC_RM = 7, SHIFT = 8, NOT = 9, NEG = 10, MUL = 11, IDIV = 12, IMUL = 13, SIGN_TO_EDX = 14,
        MOV_RM_REG = 15, MOV_REG_RM = 16, MOV_REG_IMM = 17, MOV_RM_IMM = 18, LEA = 19, MOV_ZERO_EXTENDED = 20, SET_IF = 21,
        PUSH_REG = 22, PUSH_IMM = 23, PUSH_RM = 24, POP_REG = 25,
        JUMP_IF = 26, JUMP = 27, JUMP_RM = 28, CALL = 29, CALL_RM = 30, RETURN = 31, INT = 32, IRET = 33,
        MOVE_STRING = 34, STORE_STRING = 35,
        NOP = 36, FLAG = 37, INTERRUPT_FLAG = 38, OUT = 39, HALT = 40, READ_CONTROL = 41, WRITE_CONTROL = 42,
        GROUP_FF = 43, GROUP_F7 = 44;

    private final byte[] memory = new byte[MAX_BYTES];
    private final int[] general = new int[8];
    private final int[] ports = new int[PORT_LOG];
    private final int[] mapped = new int[4];
    private final int[] words = new int[4];

    private final int size;
    private int eip;
    private int flags;
    private boolean paging;
    private int cr2;
    private int cr3;
    private int cr4;
    private int cr5;
    private int cpl;
    private int state;
    private int pending;
    private int deliveries;
    private int lastVector;
    private int lastError;
    private int portTotal;
    private int portKept;

    // What follows belongs to the step under way alone.
    private int next;
    private int returnTo;
    private int raised;
    private int raisedError;
    private int directoryAt;
    private int tableAt;
    private int code;
    private int form;
    private int width;
    private int mod;
    private int regField;
    private int rm;
    private int linear;
    private int immediate;
    private int operand;

    public Pc32(int frames) {
        int kept = frames < MIN_FRAMES ? MIN_FRAMES : frames;
        size = FRAME_BYTES * (kept > MAX_FRAMES ? MAX_FRAMES : kept);
        makeFresh();
    }

    public boolean poke(int address, long bytes, int count) {
        if (!isInMemory(address, count)) return false;
        for (int i = 0; i < count; i++) memory[address + i] = (byte) (bytes >>> (8 * i));
        return true;
    }

    public long peek(int address, int count) {
        if (!isInMemory(address, count)) return 0;
        long value = 0;
        for (int i = 0; i < count; i++) value |= (memory[address + i] & 0xFFL) << (8 * i);
        return value;
    }

    public boolean setReg(int which, int value) {
        if (which < 0 || which > 15) return false;
        if (which < 8) {
            general[which] = value;
            return true;
        }
        switch (which) {
            case 8: eip = value; break;
            case 9: takeFlags(value); break;
            case 10: setControl(0, value); break;
            case 15: cpl = (value & 3) == 0 ? 0 : 3; break;
            default: setControl(which - 9, value);
        }
        return true;
    }

    public int reg(int which) {
        if (which >= 0 && which < 8) return general[which];
        switch (which) {
            case 8: return eip;
            case 9: return flags;
            case 10: return control(0);
            case 11: case 12: case 13: case 14: return control(which - 9);
            case 15: return cpl;
            case 16: return pending;
            case 17: return deliveries;
            case 18: return lastVector;
            case 19: return lastError;
            case 20: return size;
            default: return 0;
        }
    }

    public boolean irq(int vector) {
        if (state == SHUTDOWN || vector < 32 || vector > 47 || pending != NONE) return false;
        pending = vector;
        return true;
    }

    public int run(int limit) {
        int bound = limit > MAX_STEPS ? MAX_STEPS : limit;
        int done = 0;
        while (done < bound) {
            boolean interrupted = pending != NONE && (flags & IF) != 0;
            if (state == SHUTDOWN || (state == HALTED && !interrupted)) break;
            startStep();
            if (interrupted) {
                acceptInterrupt();
            } else {
                fetchOpcode();
                if (raised == NONE) fetchModRm();
                if (raised == NONE) fetchAddress();
                if (raised == NONE) fetchImmediate();
                if (raised == NONE) readMemory();
                if (raised == NONE) mapWrite();
                if (raised == NONE) execute();
            }
            if (raised == NONE) eip = next;
            else deliver();
            done++;
        }
        return done;
    }

    public int status() {
        return state;
    }

    public int portWrites() {
        return portTotal;
    }

    public int portWrite(int back) {
        if (back < 0 || back >= portKept) return -1;
        return ports[(portTotal - 1 - back) & (PORT_LOG - 1)];
    }

    public int translate(int a, int kind) {
        int level = (kind & 2) != 0 ? 3 : 0;
        long found = lookUp(a, (kind & 1) != 0, level);
        if (found < 0) return -1;
        return found >= size ? -2 : (int) found;
    }

    public void reset() {
        makeFresh();
    }

    private void makeFresh() {
        for (int i = 0; i < 8; i++) general[i] = 0;
        eip = 0;
        flags = FIXED_FLAGS;
        paging = false;
        cr2 = 0;
        cr3 = 0;
        cr4 = 0;
        cr5 = 0;
        cpl = 0;
        state = RUNNING;
        pending = NONE;
        deliveries = 0;
        lastVector = NONE;
        lastError = NONE;
        portTotal = 0;
        portKept = 0;
    }

    // ---- registers ----

    private void takeFlags(int word) {
        flags = (word & ALL_FLAGS) | FIXED_FLAGS;
    }

    private int control(int number) {
        switch (number) {
            case 0: return paging ? PAGING_BIT : 0;
            case 2: return cr2;
            case 3: return cr3;
            case 4: return cr4;
            default: return cr5;
        }
    }

    private void setControl(int number, int value) {
        switch (number) {
            case 0: paging = (value & PAGING_BIT) != 0; break;
            case 2: cr2 = value; break;
            case 3: cr3 = value & CR3_MASK; break;
            case 4: cr4 = value & CR4_MASK; break;
            default: cr5 = value;
        }
    }

    private int register(int number) {
        if (width == 4) return general[number & 7];
        return (general[number & 3] >> ((number & 4) * 2)) & 0xFF;
    }

    private void setRegister(int number, int value) {
        if (width == 4) {
            general[number & 7] = value;
            return;
        }
        int shift = (number & 4) * 2;
        general[number & 3] = (general[number & 3] & ~(0xFF << shift)) | ((value & 0xFF) << shift);
    }

    // ---- memory ----

    private boolean isInMemory(int at, int count) {
        return count >= 1 && count <= 8 && at >= 0 && at <= size - count;
    }

    private int halfWord(int at) {
        if (at < 0 || at > size - 2) return 0;
        return (memory[at] & 0xFF) | ((memory[at + 1] & 0xFF) << 8);
    }

    // The physical address as a number of 0 .. 2^32-1, or ABSENT or FORBIDDEN; the places of D and T stay in fields for map.
    private long lookUp(int a, boolean writing, int level) {
        if (!paging) return a & 0xFFFFFFFFL;
        if (a >>> 12 != 0) return ABSENT;
        directoryAt = cr3 + 2 * ((a >>> 9) & 7);
        int d = halfWord(directoryAt);
        if ((d & 1) == 0) return ABSENT;
        tableAt = (d & 0x3F0) + 2 * ((a >>> 6) & 7);
        int t = halfWord(tableAt);
        if ((t & 1) == 0) return ABSENT;
        if (level == 3 && (d & t & 4) == 0) return FORBIDDEN;
        if (writing && (d & t & 2) == 0) return FORBIDDEN;
        return (t & 0x3C0) | (a & 63);
    }

    private void map(int a, int count, boolean writing, int level) {
        for (int i = 0; i < count; i++) {
            long found = lookUp(a + i, writing, level);
            if (found < 0) {
                cr2 = a + i;
                raise(PAGE_FAULT, (found == FORBIDDEN ? 1 : 0) + (writing ? 2 : 0) + (level == 3 ? 4 : 0));
                return;
            }
            if (paging) {
                memory[directoryAt] |= 8;
                memory[tableAt] |= writing ? 24 : 8;
            }
            mapped[i & 3] = (int) found;
        }
    }

    private int readMapped(int count) {
        int value = 0;
        for (int i = 0; i < count; i++) {
            int at = mapped[i & 3];
            int one = at >= 0 && at < size ? memory[at] & 0xFF : 0xFF;
            value |= one << (8 * i);
        }
        return value;
    }

    private void writeMapped(int value, int count) {
        for (int i = 0; i < count; i++) {
            int at = mapped[i & 3];
            if (at >= 0 && at < size) memory[at] = (byte) (value >>> (8 * i));
        }
    }

    // ---- the step ----

    private void startStep() {
        raised = NONE;
        next = eip;
        returnTo = eip;
    }

    private void raise(int vector, int error) {
        raised = vector;
        raisedError = error;
    }

    private void acceptInterrupt() {
        state = RUNNING;
        raise(pending, NONE);
        pending = NONE;
    }

    // Three tries are enough: a free vector, the fault that it met, the double fault.
    private void deliver() {
        for (int tries = 0; tries < 3; tries++) {
            int vector = raised;
            raised = NONE;
            enter(vector, raisedError);
            if (raised == NONE) return;
            if (vector == DOUBLE_FAULT) {
                state = SHUTDOWN;
                return;
            }
            if (vector < FIRST_FREE_VECTOR) raise(DOUBLE_FAULT, 0);
            returnTo = eip;
        }
    }

    private void enter(int vector, int error) {
        int entry = halfWord(cr4 + 2 * vector) & 0x7FFF;
        if (entry == 0) {
            raise(PROTECTION_FAULT, 8 * vector + 2);
            return;
        }
        words[0] = general[ESP];
        words[1] = flags + (cpl << 12);
        words[2] = returnTo;
        words[3] = error;
        int count = error == NONE ? 3 : 4;
        int sp = cpl == 3 ? cr5 : general[ESP];
        for (int i = 0; i < count; i++) {
            sp -= 4;
            map(sp, 4, true, 0);
            if (raised != NONE) return;
            writeMapped(words[i], 4);
        }
        general[ESP] = sp;
        eip = entry;
        cpl = 0;
        flags &= ~IF;
        deliveries++;
        lastVector = vector;
        lastError = error;
    }

    // ---- fetch ----

    private int fetch(int count) {
        int value = 0;
        for (int i = 0; i < count; i++) {
            map(next, 1, false, cpl);
            if (raised != NONE) return 0;
            int one = readMapped(1);
            value |= one << (8 * i);
            next++;
        }
        return value;
    }

    private void fetchOpcode() {
        code = fetch(1);
        if (raised != NONE) return;
        if (code == 0x0F || code == 0xF3) {
            int group = code == 0x0F ? AFTER_0F : AFTER_F3;
            int second = fetch(1);
            if (raised != NONE) return;
            code = group + second;
        }
        form = formOf(code);
        width = widthOf(form, code);
        if (form == UNKNOWN) raise(INVALID_FAULT, NONE);
    }

    private void fetchModRm() {
        mod = 3;
        int allowed = allowedRegFields(form);
        if (allowed == 0) return;
        int modRm = fetch(1);
        if (raised != NONE) return;
        mod = modRm >> 6;
        regField = (modRm >> 3) & 7;
        rm = modRm & 7;
        boolean control = form == READ_CONTROL || form == WRITE_CONTROL;
        boolean wrongMod = (form == LEA && mod == 3) || (control && mod != 3);
        if (wrongMod || ((allowed >> regField) & 1) == 0) raise(INVALID_FAULT, NONE);
        else form = memberOf(form, regField);
    }

    private void fetchAddress() {
        if (mod == 3) return;
        int base = rm;
        int scaled = 0;
        if (rm == 4) {
            int sib = fetch(1);
            if (raised != NONE) return;
            int index = (sib >> 3) & 7;
            base = sib & 7;
            if (index != 4) scaled = general[index] << (sib >> 6);
        }
        boolean baseless = mod == 0 && base == 5;
        int count = mod == 2 || baseless ? 4 : mod;
        int displacement = fetch(count);
        if (count == 1) displacement = (byte) displacement;
        linear = (baseless ? 0 : general[base]) + scaled + displacement;
    }

    // An immediate byte is sign-extended in every form: those that have no use for the sign look at the low bits alone.
    private void fetchImmediate() {
        int count = immediateBytes();
        immediate = fetch(count);
        if (raised != NONE) return;
        if (count == 1) immediate = (byte) immediate;
        if (cpl == 3 && isPrivileged(form)) raise(PROTECTION_FAULT, 0);
    }

    // ---- what the forms are ----

    private static int formOf(int code) {
        if (code < 0x40) return aluFormOf(code & 7);
        if (code >= AFTER_0F) return secondByteFormOf(code);
        switch (code & 0xF8) {
            case 0x40: case 0x48: return INC_DEC_REG;
            case 0x50: return PUSH_REG;
            case 0x58: return POP_REG;
            case 0x70: case 0x78: return JUMP_IF;
            case 0xB0: case 0xB8: return MOV_REG_IMM;
            default: return singleFormOf(code);
        }
    }

    private static int aluFormOf(int column) {
        switch (column) {
            case 0: case 1: return ALU_RM_REG;
            case 2: case 3: return ALU_REG_RM;
            case 4: case 5: return ALU_ACC_IMM;
            default: return UNKNOWN;
        }
    }

    private static int secondByteFormOf(int code) {
        switch (code) {
            case AFTER_0F + 0x20: return READ_CONTROL;
            case AFTER_0F + 0x22: return WRITE_CONTROL;
            case AFTER_0F + 0xAF: return IMUL;
            case AFTER_0F + 0xB6: return MOV_ZERO_EXTENDED;
            case AFTER_F3 + 0xA4: return MOVE_STRING;
            case AFTER_F3 + 0xAA: return STORE_STRING;
            default:
        }
        if ((code & ~15) == AFTER_0F + 0x80) return JUMP_IF;
        return (code & ~15) == AFTER_0F + 0x90 ? SET_IF : UNKNOWN;
    }

    private static int singleFormOf(int code) {
        switch (code) {
            case 0x68: case 0x6A: return PUSH_IMM;
            case 0x80: case 0x81: case 0x83: return ALU_RM_IMM;
            case 0x84: case 0x85: return TEST;
            case 0x88: case 0x89: return MOV_RM_REG;
            case 0x8A: case 0x8B: return MOV_REG_RM;
            case 0x8D: return LEA;
            case 0x90: return NOP;
            case 0x99: return SIGN_TO_EDX;
            case 0xA4: return MOVE_STRING;
            case 0xAA: return STORE_STRING;
            case 0xC1: case 0xD1: case 0xD3: return SHIFT;
            case 0xC3: return RETURN;
            case 0xC6: case 0xC7: return MOV_RM_IMM;
            case 0xCC: case 0xCD: return INT;
            case 0xCF: return IRET;
            case 0xE6: return OUT;
            case 0xE8: return CALL;
            case 0xE9: case 0xEB: return JUMP;
            case 0xF4: return HALT;
            case 0xF5: case 0xF8: case 0xF9: case 0xFC: case 0xFD: return FLAG;
            case 0xF7: return GROUP_F7;
            case 0xFA: case 0xFB: return INTERRUPT_FLAG;
            case 0xFF: return GROUP_FF;
            default: return UNKNOWN;
        }
    }

    // The bytes of the r/m operand, and of the register or immediate beside it.
    private static int widthOf(int form, int code) {
        switch (form) {
            case ALU_RM_REG: case ALU_REG_RM: case ALU_ACC_IMM: case ALU_RM_IMM: case TEST:
            case MOV_RM_REG: case MOV_REG_RM: case MOV_RM_IMM:
                return (code & 1) == 0 ? 1 : 4;
            case MOV_REG_IMM:
                return code < 0xB8 ? 1 : 4;
            case MOV_ZERO_EXTENDED: case SET_IF:
                return 1;
            default:
                return 4;
        }
    }

    // Bit n is set where the form allows n as reg field; 0 where the form has no ModRM.
    private static int allowedRegFields(int form) {
        switch (form) {
            case ALU_RM_REG: case ALU_REG_RM: case ALU_RM_IMM: case TEST: case IMUL:
            case MOV_RM_REG: case MOV_REG_RM: case LEA: case MOV_ZERO_EXTENDED: case SET_IF:
                return 0xFF;
            case MOV_RM_IMM: return 0x01;
            case SHIFT: return 0xB0;
            case GROUP_F7: return 0x9C;
            case GROUP_FF: return 0x57;
            case READ_CONTROL: case WRITE_CONTROL: return 0x3D;
            default: return 0;
        }
    }

    private static int memberOf(int form, int regField) {
        if (form == GROUP_FF) {
            switch (regField) {
                case 2: return CALL_RM;
                case 4: return JUMP_RM;
                case 6: return PUSH_RM;
                default: return INC_DEC_RM;
            }
        }
        if (form != GROUP_F7) return form;
        switch (regField) {
            case 2: return NOT;
            case 3: return NEG;
            case 4: return MUL;
            default: return IDIV;
        }
    }

    private int immediateBytes() {
        switch (form) {
            case ALU_ACC_IMM: case MOV_REG_IMM: case MOV_RM_IMM: return width;
            case ALU_RM_IMM: return code == 0x81 ? 4 : 1;
            case PUSH_IMM: return code == 0x68 ? 4 : 1;
            case JUMP_IF: return code < AFTER_0F ? 1 : 4;
            case JUMP: return code == 0xEB ? 1 : 4;
            case CALL: return 4;
            case SHIFT: return code == 0xC1 ? 1 : 0;
            case INT: return code == 0xCD ? 1 : 0;
            case OUT: return 1;
            default: return 0;
        }
    }

    private static boolean isPrivileged(int form) {
        switch (form) {
            case INTERRUPT_FLAG: case OUT: case IRET: case HALT: case READ_CONTROL: case WRITE_CONTROL: return true;
            default: return false;
        }
    }

    private int aluKind() {
        if (form == TEST) return AND;
        return form == ALU_RM_IMM ? regField : code >> 3;
    }

    private int rmUse() {
        switch (form) {
            case ALU_RM_REG: case ALU_RM_IMM:
                return aluKind() == CMP ? READ : CHANGED;
            case ALU_REG_RM: case TEST: case MUL: case IDIV: case IMUL: case MOV_REG_RM: case MOV_ZERO_EXTENDED:
            case PUSH_RM: case JUMP_RM: case CALL_RM:
                return READ;
            case MOV_RM_REG: case MOV_RM_IMM: case SET_IF:
                return WRITTEN;
            case INC_DEC_RM: case SHIFT: case NOT: case NEG:
                return CHANGED;
            default:
                return UNUSED;
        }
    }

    // ---- an instruction's accesses ----

    private boolean isRepeated() {
        return code >= AFTER_F3;
    }

    private boolean movesByte() {
        boolean string = form == MOVE_STRING || form == STORE_STRING;
        return string && !(isRepeated() && general[ECX] == 0);
    }

    private boolean pushes() {
        return form == PUSH_REG || form == PUSH_IMM || form == PUSH_RM || form == CALL || form == CALL_RM;
    }

    private void readMemory() {
        if (form == IRET) {
            readReturnFrame();
            return;
        }
        int at = linear;
        int count = 0;
        if (form == POP_REG || form == RETURN) {
            at = general[ESP];
            count = 4;
        } else if (form == MOVE_STRING && movesByte()) {
            at = general[ESI];
            count = 1;
        } else if (mod != 3 && rmUse() == READ) {
            count = width;
        }
        if (count == 0) return;
        map(at, count, false, cpl);
        if (raised == NONE) operand = readMapped(count);
    }

    private void readReturnFrame() {
        for (int i = 0; i < 3; i++) {
            map(general[ESP] + 4 * i, 4, false, cpl);
            if (raised != NONE) return;
            words[i] = readMapped(4);
        }
    }

    private void mapWrite() {
        int use = mod == 3 ? UNUSED : rmUse();
        int at = linear;
        int count = 0;
        if (pushes()) {
            at = general[ESP] - 4;
            count = 4;
        } else if (movesByte()) {
            at = general[EDI];
            count = 1;
        } else if (use == WRITTEN || use == CHANGED) {
            count = width;
        }
        if (count == 0) return;
        map(at, count, true, cpl);
        if (raised == NONE && use == CHANGED) operand = readMapped(count);
    }

    private int rmValue() {
        return mod == 3 ? register(rm) : operand;
    }

    private void storeRm(int value) {
        if (mod == 3) setRegister(rm, value);
        else writeMapped(value, width);
    }

    // ---- execution ----

    private void execute() {
        switch (form) {
            case ALU_RM_REG: case ALU_REG_RM: case ALU_ACC_IMM: case ALU_RM_IMM: case TEST:
                executeAlu();
                break;
            case INC_DEC_REG: case INC_DEC_RM:
                executeIncDec();
                break;
            case SHIFT:
                executeShift();
                break;
            case NOT: case NEG: case MUL: case IDIV: case IMUL:
                executeOnRm();
                break;
            case MOV_RM_REG: case MOV_REG_RM: case MOV_REG_IMM: case MOV_RM_IMM:
            case LEA: case MOV_ZERO_EXTENDED: case SIGN_TO_EDX: case SET_IF:
                executeMove();
                break;
            case PUSH_REG: case PUSH_IMM: case PUSH_RM: case POP_REG:
                executeStack();
                break;
            case JUMP_IF: case JUMP: case JUMP_RM: case CALL: case CALL_RM: case RETURN:
                executeJump();
                break;
            case MOVE_STRING: case STORE_STRING:
                executeString();
                break;
            default:
                executeSystem();
        }
    }

    private void executeAlu() {
        int kind = aluKind();
        int d;
        int s;
        switch (form) {
            case ALU_REG_RM: d = register(regField); s = rmValue(); break;
            case ALU_ACC_IMM: d = register(EAX); s = immediate; break;
            case ALU_RM_IMM: d = rmValue(); s = immediate; break;
            default: d = rmValue(); s = register(regField);
        }
        int result = combine(kind, d, s);
        if (kind == CMP || form == TEST) return;
        switch (form) {
            case ALU_REG_RM: setRegister(regField, result); break;
            case ALU_ACC_IMM: setRegister(EAX, result); break;
            default: storeRm(result);
        }
    }

    private int combine(int kind, int d, int s) {
        switch (kind) {
            case ADD: return sum(d, s, 0);
            case ADC: return sum(d, s, flags & CF);
            case SBB: return difference(d, s, flags & CF);
            case SUB: case CMP: return difference(d, s, 0);
            default:
        }
        int result = kind == OR ? d | s : kind == AND ? d & s : d ^ s;
        setResultFlags(result, false, false);
        return result;
    }

    private long withoutSign(long value) {
        return width == 1 ? value & 0xFFL : value & 0xFFFFFFFFL;
    }

    private long withSign(long value) {
        return width == 1 ? (byte) value : (int) value;
    }

    private int sum(int d, int s, int carry) {
        long whole = withoutSign(d) + withoutSign(s) + carry;
        long signed = withSign(d) + withSign(s) + carry;
        boolean carries = whole != withoutSign(whole);
        boolean overflows = signed != withSign(signed);
        setResultFlags((int) signed, carries, overflows);
        return (int) signed;
    }

    private int difference(int d, int s, int borrow) {
        boolean borrows = withoutSign(d) < withoutSign(s) + borrow;
        long signed = withSign(d) - withSign(s) - borrow;
        boolean overflows = signed != withSign(signed);
        setResultFlags((int) signed, borrows, overflows);
        return (int) signed;
    }

    private void setResultFlags(int result, boolean carry, boolean overflow) {
        int kept = width == 1 ? result & 0xFF : result;
        int top = width == 1 ? 0x80 : 0x80000000;
        int parity = result & 0xFF;
        parity ^= parity >> 4;
        parity ^= parity >> 2;
        parity ^= parity >> 1;
        int bits = 0;
        if (carry) bits |= CF;
        if (overflow) bits |= OF;
        if (kept == 0) bits |= ZF;
        if ((kept & top) != 0) bits |= SF;
        if ((parity & 1) == 0) bits |= PF;
        flags = (flags & ~RESULT_FLAGS) | bits;
    }

    private void executeIncDec() {
        boolean inRegister = form == INC_DEC_REG;
        boolean down = inRegister ? code >= 0x48 : regField == 1;
        int old = inRegister ? general[code & 7] : rmValue();
        int carry = flags & CF;
        int result = down ? difference(old, 1, 0) : sum(old, 1, 0);
        flags = (flags & ~CF) | carry;
        if (inRegister) general[code & 7] = result;
        else storeRm(result);
    }

    private void executeShift() {
        int by = (code == 0xC1 ? immediate : code == 0xD1 ? 1 : general[ECX]) & 31;
        int old = rmValue();
        int result = old;
        if (by != 0) {
            boolean carry = ((old >>> (by - 1)) & 1) != 0;
            boolean overflow = false;
            if (regField == 4) {
                result = old << by;
                carry = ((old >>> (32 - by)) & 1) != 0;
                overflow = (result < 0) != carry;
            } else if (regField == 5) {
                result = old >>> by;
                overflow = old < 0;
            } else {
                result = old >> by;
            }
            setResultFlags(result, carry, overflow);
        }
        storeRm(result);
    }

    private void executeOnRm() {
        int value = rmValue();
        switch (form) {
            case NOT: storeRm(~value); break;
            case NEG: value = difference(0, value, 0); storeRm(value); break;
            case MUL: multiplyWithoutSign(value); break;
            case IMUL: multiplyWithSign(value); break;
            default: divide(value);
        }
    }

    private void multiplyWithSign(int factor) {
        long product = (long) general[regField] * factor;
        boolean tooLong = product != (int) product;
        general[regField] = (int) product;
        setResultFlags((int) product, tooLong, tooLong);
    }

    private void multiplyWithoutSign(int factor) {
        long product = (general[EAX] & 0xFFFFFFFFL) * (factor & 0xFFFFFFFFL);
        general[EAX] = (int) product;
        general[EDX] = (int) (product >>> 32);
        setResultFlags(general[EAX], general[EDX] != 0, general[EDX] != 0);
    }

    private void divide(int divisor) {
        if (divisor == 0) {
            raise(DIVIDE_FAULT, NONE);
            return;
        }
        long dividend = ((long) general[EDX] << 32) | (general[EAX] & 0xFFFFFFFFL);
        long quotient = dividend / divisor;
        if (quotient != (int) quotient) {
            raise(DIVIDE_FAULT, NONE);
            return;
        }
        general[EAX] = (int) quotient;
        general[EDX] = (int) (dividend % divisor);
    }

    private void executeMove() {
        int value;
        switch (form) {
            case MOV_RM_REG: value = register(regField); storeRm(value); break;
            case MOV_REG_RM: value = rmValue(); setRegister(regField, value); break;
            case MOV_REG_IMM: setRegister(code & 7, immediate); break;
            case MOV_RM_IMM: storeRm(immediate); break;
            case LEA: general[regField] = linear; break;
            case MOV_ZERO_EXTENDED: general[regField] = rmValue(); break;
            case SIGN_TO_EDX: general[EDX] = general[EAX] >> 31; break;
            default: value = isMet(code & 15) ? 1 : 0; storeRm(value);
        }
    }

    private boolean isMet(int condition) {
        boolean carry = (flags & CF) != 0;
        boolean zero = (flags & ZF) != 0;
        boolean less = ((flags & SF) != 0) != ((flags & OF) != 0);
        boolean met;
        switch (condition >> 1) {
            case 0: met = (flags & OF) != 0; break;
            case 1: met = carry; break;
            case 2: met = zero; break;
            case 3: met = carry || zero; break;
            case 4: met = (flags & SF) != 0; break;
            case 5: met = (flags & PF) != 0; break;
            case 6: met = less; break;
            default: met = zero || less;
        }
        return met == ((condition & 1) == 0);
    }

    private void push(int value) {
        writeMapped(value, 4);
        general[ESP] -= 4;
    }

    private void executeStack() {
        int value;
        switch (form) {
            case PUSH_REG: push(general[code & 7]); break;
            case PUSH_IMM: push(immediate); break;
            case PUSH_RM: value = rmValue(); push(value); break;
            default:
                general[ESP] += 4;
                general[code & 7] = operand;
        }
    }

    private void executeJump() {
        int target = next + immediate;
        switch (form) {
            case JUMP_IF:
                if (!isMet(code & 15)) target = next;
                break;
            case JUMP:
                break;
            case JUMP_RM:
                target = rmValue();
                break;
            case CALL:
                push(next);
                break;
            case CALL_RM:
                target = rmValue();
                push(next);
                break;
            default:
                target = operand;
                general[ESP] += 4;
        }
        next = target;
    }

    private void executeString() {
        if (!movesByte()) return;
        int by = (flags & DF) == 0 ? 1 : -1;
        if (form == MOVE_STRING) {
            writeMapped(operand, 1);
            general[ESI] += by;
        } else {
            writeMapped(general[EAX], 1);
        }
        general[EDI] += by;
        if (!isRepeated()) return;
        general[ECX]--;
        if (general[ECX] != 0) next = eip;
    }

    private void executeSystem() {
        switch (form) {
            case FLAG: case INTERRUPT_FLAG: executeFlag(); break;
            case OUT: writePort(); break;
            case HALT: state = HALTED; break;
            case READ_CONTROL: general[rm] = control(regField); break;
            case WRITE_CONTROL: setControl(regField, general[rm]); break;
            case INT: executeInt(); break;
            case IRET: executeIret(); break;
            default:
        }
    }

    private void executeFlag() {
        switch (code) {
            case 0xF5: flags ^= CF; break;
            case 0xF8: flags &= ~CF; break;
            case 0xF9: flags |= CF; break;
            case 0xFA: flags &= ~IF; break;
            case 0xFB: flags |= IF; break;
            case 0xFC: flags &= ~DF; break;
            default: flags |= DF;
        }
    }

    private void writePort() {
        ports[portTotal & (PORT_LOG - 1)] = ((immediate & 0xFF) << 8) | (general[EAX] & 0xFF);
        portTotal++;
        if (portKept < PORT_LOG) portKept++;
    }

    private void executeInt() {
        int vector = code == 0xCC ? 3 : immediate & 0xFF;
        int entry = halfWord(cr4 + 2 * vector);
        if (cpl == 3 && (entry & 0x8000) == 0) {
            raise(PROTECTION_FAULT, 8 * vector + 2);
            return;
        }
        raise(vector, NONE);
        returnTo = next;
    }

    private void executeIret() {
        next = words[0];
        takeFlags(words[1]);
        cpl = (words[1] & 0x3000) == 0 ? 0 : 3;
        general[ESP] = words[2];
    }
}
