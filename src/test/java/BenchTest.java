/** Promises 15 to 19: the bench, and by it every instruction of part 1 of the document. */
public final class BenchTest {
    private static final int N = 8;
    private static final int Z = 4;
    private static final int V = 2;
    private static final int C = 1;
    private static final int HERE = 01000;

    private static SchemeEleven x;

    public static void main(String[] args) {
        calls();
        move();
        compareAndBits();
        sums();
        ways();
        orderOfOperands();
        multiplyDivide();
        shifts();
        xorAndLoop();
        singles();
        rotations();
        jumps();
        returns();
        swapAndExtend();
        branches();
        flags();
        stops();
        stopsWithin();
        Check.finish();
    }

    /** A new bench with these words at HERE, where PC is. */
    private static void words(int... all) {
        x = new SchemeEleven();
        for (int i = 0; i < all.length; i++) {
            x.poke(HERE + 2 * i, all[i]);
        }
        x.set(7, HERE);
    }

    private static void regs(int r0, int r1, int r2) {
        x.set(0, r0);
        x.set(1, r1);
        x.set(2, r2);
    }

    private static void goes(String what, int want) {
        Check.due(what + ": go(1)", x.go(1), want);
    }

    private static void reg(String what, int k, int want) {
        Check.due(what + ": held(" + k + ")", x.held(k), want);
    }

    private static void word(String what, int place, int want) {
        Check.due(what + ": peek(" + place + ")", x.peek(place), want);
    }

    private static void calls() {
        x = new SchemeEleven();
        Check.due("poke(8190)", x.poke(8190, -1), true);
        Check.due("peek(8190)", x.peek(8190), 65535);
        Check.due("poke(0)", x.poke(0, 65536 + 7), true);
        Check.due("peek(0)", x.peek(0), 7);
        Check.due("poke(8192)", x.poke(8192, 1), false);
        Check.due("poke(1)", x.poke(1, 1), false);
        Check.due("poke(-2)", x.poke(-2, 1), false);
        Check.due("peek(8192)", x.peek(8192), -1);
        Check.due("peek(1)", x.peek(1), -1);
        Check.due("peek(-2)", x.peek(-2), -1);
        for (int k = 0; k <= 9; k++) {
            Check.due("held(" + k + ") at first", x.held(k), 0);
        }
        Check.due("held(10)", x.held(10), -1);
        Check.due("held(-1)", x.held(-1), -1);
        Check.due("set(7)", x.set(7, -2), true);
        Check.due("held(7)", x.held(7), 65534);
        Check.due("set(8)", x.set(8, 16 + 9), true);
        Check.due("held(8)", x.held(8), 9);
        Check.due("set(9)", x.set(9, 0), false);
        Check.due("set(-1)", x.set(-1, 0), false);
        Check.due("go(0)", x.go(0), -1);
        Check.due("go(5001)", x.go(5001), -1);
        Check.due("go(-1)", x.go(-1), -1);
        Check.due("Scheme's own word", x.word(8190), 0);
        words(0240, 0240, 0, 0240);
        Check.due("go(2)", x.go(2), 0);
        Check.due("held(9)", x.held(9), 2);
        Check.due("go(5000)", x.go(5000), 1);
        Check.due("held(9), the one that stopped", x.held(9), 1);
        Check.due("held(7) behind it", x.held(7), HERE + 6);
        Check.due("go(6000)", x.go(6000), -1);
        Check.due("held(9) stays", x.held(9), 1);
        words(0777);
        Check.due("a loop of 5000", x.go(5000), 0);
        Check.due("held(9) of it", x.held(9), 5000);
        x.reset();
        Check.due("peek behind reset", x.peek(HERE), 0777);
        Check.due("held(7) behind reset", x.held(7), HERE);
        Check.due("held(9) behind reset", x.held(9), 5000);
    }

    private static void move() {
        words(010001);
        regs(0100000, 5, 0);
        x.set(8, V + C);
        goes("MOV R0,R1", 0);
        reg("MOV", 1, 0100000);
        reg("MOV", 8, N + C);
        words(012701, 0);
        x.set(8, 15);
        goes("MOV #0,R1", 0);
        reg("MOV #0", 8, Z + C);
        reg("MOV #0", 7, HERE + 4);
        words(0110001);
        regs(0177, 0123456, 0);
        goes("MOVB R0,R1", 0);
        reg("MOVB", 1, 0177);
        reg("MOVB", 8, 0);
        words(0110001);
        regs(01200, 0, 0);
        goes("MOVB R0,R1 with its sign", 0);
        reg("MOVB", 1, 0177600);
        reg("MOVB", 8, N);
        words(0110011);
        regs(0125, 0501, 0);
        x.poke(0500, 0xABCD);
        goes("MOVB R0,(R1)", 0);
        word("MOVB to an odd place", 0500, 0x55CD);
        words(0111100);
        regs(0, 0501, 0);
        x.poke(0500, 0x7F80);
        goes("MOVB (R1),R0 at an odd place", 0);
        reg("MOVB (R1),R0", 0, 0x7F);
        words(0111100);
        regs(0, 0502, 0);
        x.poke(0502, 0x1281);
        goes("MOVB (R1),R0 at an even place", 0);
        reg("MOVB (R1),R0", 0, 0xFF81);
        words(0105111);
        regs(0, 0501, 0);
        x.poke(0500, 0x7F80);
        goes("COMB (R1) at an odd place", 0);
        word("COMB (R1)", 0500, 0x8080);
        reg("COMB (R1)", 8, N + C);
        words(010001);
        regs(1, 5, 0);
        x.set(8, N + Z + V);
        goes("MOV of 1", 0);
        reg("MOV of 1", 8, 0);
        words(0110007);
        regs(0376, 0, 0);
        goes("MOVB R0,PC", 0);
        reg("MOVB to PC", 7, 0177776);
    }

    private static void compareAndBits() {
        int[][] rows = {
            {5, 5, Z}, {5, 6, N + C}, {6, 5, 0}, {0100000, 1, V}, {077777, 0177777, N + V + C},
            {0, 0100000, N + V + C}, {0177777, 077777, N}, {0100000, 0100000, Z},
        };
        for (int[] row : rows) {
            words(020001);
            regs(row[0], row[1], 0);
            x.set(8, 0);
            goes("CMP", 0);
            reg("CMP " + row[0] + " " + row[1], 8, row[2]);
            reg("CMP", 1, row[1]);
        }
        words(0120001);
        regs(0x1180, 0x2201, 0);
        goes("CMPB", 0);
        reg("CMPB", 8, V);
        words(030001);
        regs(0x8001, 0x8000, 0);
        x.set(8, V + C);
        goes("BIT", 0);
        reg("BIT", 8, N + C);
        reg("BIT", 1, 0x8000);
        words(0130001);
        regs(0xFF01, 0xFF02, 0);
        goes("BITB", 0);
        reg("BITB", 8, Z);
        words(040001);
        regs(0x00FF, 0x1234, 0);
        goes("BIC", 0);
        reg("BIC", 1, 0x1200);
        words(0140001);
        regs(0x0030, 0x1234, 0);
        goes("BICB", 0);
        reg("BICB", 1, 0x1204);
        words(050001);
        regs(0x8080, 0x0001, 0);
        x.set(8, V);
        goes("BIS", 0);
        reg("BIS", 1, 0x8081);
        reg("BIS", 8, N);
        words(0150001);
        regs(0xFF80, 0x1201, 0);
        goes("BISB", 0);
        reg("BISB", 1, 0x1281);
        reg("BISB", 8, N);
    }

    private static void sums() {
        int[][] adds = {
            {1, 2, 3, 0}, {077777, 1, 0100000, N + V}, {0177777, 1, 0, Z + C},
            {0100000, 0100000, 0, Z + V + C}, {0177777, 0177777, 0177776, N + C}, {0177776, 1, 0177777, N},
            {0, 5, 5, 0}, {0, 0, 0, Z},
        };
        for (int[] row : adds) {
            words(060001);
            regs(row[0], row[1], 0);
            goes("ADD", 0);
            reg("ADD " + row[0] + " " + row[1], 1, row[2]);
            reg("ADD " + row[0] + " " + row[1], 8, row[3]);
        }
        int[][] takes = {
            {1, 3, 2, 0}, {3, 1, 0177776, N + C}, {5, 5, 0, Z},
            {1, 0100000, 077777, V}, {0177777, 077777, 0100000, N + V + C}, {0, 7, 7, 0}, {1, 0, 0177777, N + C},
        };
        for (int[] row : takes) {
            words(0160001);
            regs(row[0], row[1], 0);
            goes("SUB", 0);
            reg("SUB " + row[0] + " " + row[1], 1, row[2]);
            reg("SUB " + row[0] + " " + row[1], 8, row[3]);
        }
    }

    /** CLR and CLRB by every way. */
    private static void ways() {
        int[][] rows = {
            // way and register, byte, register ahead, behind, place that is cleared
            {011, 0, 0500, 0500, 0500}, {021, 0, 0500, 0502, 0500}, {021, 1, 0500, 0501, 0500},
            {026, 1, 0500, 0502, 0500}, {031, 0, 0500, 0502, 0600}, {031, 1, 0500, 0502, 0600},
            {041, 0, 0502, 0500, 0500}, {041, 1, 0501, 0500, 0500}, {046, 1, 0502, 0500, 0500},
            {051, 0, 0502, 0500, 0600}, {051, 1, 0502, 0500, 0600}, {061, 0, 0470, 0470, 0500},
            {071, 0, 0470, 0470, 0600},
        };
        for (int[] row : rows) {
            words((row[1] == 1 ? 0105000 : 05000) + row[0], 010);
            int k = row[0] & 7;
            x.poke(0500, row[4] == 0600 ? 0600 : 0x7777);
            x.poke(0600, 0x7777);
            x.set(k, row[2]);
            String what = "CLR by " + Integer.toOctalString(row[0]) + (row[1] == 1 ? " of bytes" : "");
            goes(what, 0);
            reg(what, k, row[3]);
            word(what, row[4], row[1] == 1 ? 0x7700 : 0);
            reg(what, 8, Z);
        }
        words(05067, 2, 0, 0x7777);
        goes("CLR X(PC)", 0);
        word("CLR X(PC)", HERE + 6, 0);
        words(05037, 0500);
        x.poke(0500, 9);
        goes("CLR @#0500", 0);
        word("CLR @#", 0500, 0);
        words(05027, 9);
        goes("CLR #9", 0);
        word("CLR #", HERE + 2, 0);
        reg("CLR #", 7, HERE + 4);
        words(05061, 0177776);
        x.set(1, 0502);
        x.poke(0500, 9);
        goes("CLR -2(R1), round", 0);
        word("CLR -2(R1)", 0500, 0);
        words(0105000);
        x.set(0, 0x1234);
        goes("CLRB R0", 0);
        reg("CLRB R0", 0, 0x1200);
    }

    private static void orderOfOperands() {
        words(010121);
        x.set(1, 0500);
        goes("MOV R1,(R1)+", 0);
        word("MOV R1,(R1)+", 0500, 0500);
        words(012101);
        x.set(1, 0500);
        x.poke(0500, 7);
        goes("MOV (R1)+,R1", 0);
        reg("MOV (R1)+,R1", 1, 7);
        words(062101);
        x.set(1, 0500);
        x.poke(0500, 7);
        goes("ADD (R1)+,R1", 0);
        reg("ADD (R1)+,R1", 1, 0511);
        words(010761, 0);
        x.set(1, 0500);
        goes("MOV PC,0(R1)", 0);
        word("MOV PC,0(R1)", 0500, HERE + 2);
        words(012121);
        x.set(1, 0500);
        x.poke(0500, 3);
        goes("MOV (R1)+,(R1)+", 0);
        word("MOV (R1)+,(R1)+", 0502, 3);
        reg("MOV (R1)+,(R1)+", 1, 0504);
        words(074121);
        x.set(1, 0500);
        goes("XOR R1,(R1)+: d ahead of r", 0);
        word("XOR", 0500, 0502);
    }

    private static void multiplyDivide() {
        words(070001);
        regs(0177776, 3, 0);
        x.set(8, V + C);
        goes("MUL R1,R0", 0);
        reg("MUL of an even register", 0, 0177777);
        reg("MUL of an even register", 1, 0177772);
        reg("MUL", 8, N);
        words(070102);
        regs(9, 0400, 0400);
        goes("MUL R2,R1", 0);
        reg("MUL of an odd register", 1, 0);
        reg("MUL of an odd register", 0, 9);
        reg("MUL beyond a word", 8, C);
        words(070201);
        regs(0, 0400, 01000);
        goes("MUL R1,R2", 0);
        reg("MUL R1,R2: higher", 2, 2);
        reg("MUL R1,R2: lower", 3, 0);
        words(070102);
        regs(0, 0, 5);
        goes("MUL by 0", 0);
        reg("MUL 0", 8, Z);
        int[][] rows = {
            // high, low, divisor, quotient, rest, flags
            {0, 17, 5, 3, 2, 0}, {0177777, 0177757, 5, 0177775, 0177776, N}, {0, 17, 0177773, 0177775, 2, N},
            {0, 3, 5, 0, 3, Z}, {5, 7, 0, 5, 7, N + Z + V + C}, {1, 0, 1, 1, 0, N + Z + V},
            {0100000, 0, 0177777, 0100000, 0, N + Z + V}, {077777, 0, 1, 077777, 0, N + Z + V},
            {0177777, 0100000, 1, 0100000, 0, N}, {0, 0100000, 1, 0, 0100000, N + Z + V},
        };
        for (int[] row : rows) {
            words(071002);
            regs(row[0], row[1], row[2]);
            x.set(8, N + Z);
            String what = "DIV " + row[0] + "," + row[1] + " by " + row[2];
            goes(what, 0);
            reg(what, 0, row[3]);
            reg(what, 1, row[4]);
            reg(what, 8, row[5]);
        }
        words(071127, 5);
        goes("DIV of an odd register", 2);
        reg("DIV of an odd register: r is looked at first", 7, HERE + 2);
        words(071022);
        regs(0, 10, 0500);
        x.poke(0500, 3);
        goes("DIV (R2)+,R0", 0);
        reg("DIV (R2)+", 0, 3);
        reg("DIV (R2)+", 2, 0502);
    }

    private static void shifts() {
        int[][] rows = {
            // r, by, result, flags
            {1, 3, 8, 0}, {0x4000, 1, 0x8000, N + V}, {0x8000, 1, 0, Z + V + C}, {0xC000, 1, 0x8000, N + C},
            {0x6000, 2, 0x8000, N + V + C}, {5, 0, 5, 0}, {0x8001, 63, 0xC000, N + C}, {6, 62, 1, C},
            {0x8000, 32, 0xFFFF, N + C}, {0x7FFF, 32, 0, Z}, {1, 31, 0, Z + V}, {0xFFFF, 16, 0, Z + V + C},
            {3, 64 + 1, 6, 0}, {0x5000, 2, 0x4000, V + C},
        };
        for (int[] row : rows) {
            words(072001);
            regs(row[0], row[1], 0);
            x.set(8, V + C);
            String what = "ASH " + row[0] + " by " + row[1];
            goes(what, 0);
            reg(what, 0, row[2]);
            reg(what, 8, row[3]);
        }
    }

    private static void xorAndLoop() {
        words(074001);
        regs(0x0FF0, 0x00FF, 0);
        x.set(8, V + C);
        goes("XOR", 0);
        reg("XOR", 1, 0x0F0F);
        reg("XOR", 8, C);
        words(0240, 077002);
        x.set(0, 2);
        x.set(8, 15);
        Check.due("SOB", x.go(2), 0);
        reg("SOB", 0, 1);
        reg("SOB back", 7, HERE);
        reg("SOB and flags", 8, 15);
        Check.due("SOB", x.go(2), 0);
        reg("SOB at 0", 7, HERE + 4);
        words(077001);
        goes("SOB from 0", 0);
        reg("SOB from 0", 0, 65535);
        reg("SOB from 0", 7, HERE);
    }

    private static void singles() {
        int[][] rows = {
            // operation, C ahead, old, new, flags
            {0050, 1, 5, 0, Z}, {0051, 0, 0x00FF, 0xFF00, N + C}, {0051, 0, 0xFFFF, 0, Z + C},
            {0052, 1, 0x7FFF, 0x8000, N + V + C}, {0052, 0, 0xFFFF, 0, Z}, {0053, 0, 0x8000, 0x7FFF, V},
            {0053, 1, 0, 0xFFFF, N + C}, {0054, 0, 0x8000, 0x8000, N + V + C}, {0054, 1, 0, 0, Z},
            {0054, 0, 1, 0xFFFF, N + C}, {0055, 1, 0x7FFF, 0x8000, N + V}, {0055, 1, 0xFFFF, 0, Z + C},
            {0055, 0, 0xFFFF, 0xFFFF, N}, {0056, 1, 0x8000, 0x7FFF, V}, {0056, 1, 0, 0xFFFF, N + C},
            {0056, 0, 0, 0, Z}, {0057, 1, 0x8000, 0x8000, N}, {0057, 1, 0, 0, Z},
        };
        for (int[] row : rows) {
            words(row[0] << 6);
            x.set(0, row[2]);
            x.set(8, V + row[1]);
            String what = Integer.toOctalString(row[0]) + " of " + row[2];
            goes(what, 0);
            reg(what, 0, row[3]);
            reg(what, 8, row[4]);
        }
        int[][] bytes = {
            {0051, 0, 0x12F0, 0x120F, C}, {0052, 0, 0x127F, 0x1280, N + V}, {0052, 0, 0x12FF, 0x1200, Z},
            {0053, 0, 0x1280, 0x127F, V}, {0054, 0, 0x1280, 0x1280, N + V + C}, {0055, 1, 0x12FF, 0x1200, Z + C},
            {0056, 1, 0x1200, 0x12FF, N + C}, {0057, 1, 0xFF00, 0xFF00, Z}, {0055, 1, 0x127F, 0x1280, N + V},
        };
        for (int[] row : bytes) {
            words(0100000 | row[0] << 6);
            x.set(0, row[2]);
            x.set(8, V + row[1]);
            String what = Integer.toOctalString(row[0]) + " of the byte of " + row[2];
            goes(what, 0);
            reg(what, 0, row[3]);
            reg(what, 8, row[4]);
        }
    }

    private static void rotations() {
        int[][] rows = {
            {0060, 1, 2, 0x8001, N + V}, {0060, 0, 1, 0, Z + V + C}, {0060, 1, 1, 0x8000, N + C},
            {0061, 1, 0x4000, 0x8001, N + V}, {0061, 0, 0x8000, 0, Z + V + C}, {0061, 0, 0xC000, 0x8000, N + C},
            {0062, 0, 0x8001, 0xC000, N + C}, {0062, 0, 2, 1, 0}, {0062, 0, 1, 0, Z + V + C},
            {0063, 1, 0x4000, 0x8000, N + V}, {0063, 1, 1, 2, 0}, {0063, 0, 0xC001, 0x8002, N + C},
        };
        for (int[] row : rows) {
            words(row[0] << 6);
            x.set(0, row[2]);
            x.set(8, row[1]);
            String what = Integer.toOctalString(row[0]) + " of " + row[2];
            goes(what, 0);
            reg(what, 0, row[3]);
            reg(what, 8, row[4]);
        }
        int[][] bytes = {
            {0060, 1, 0x1203, 0x1281, N + C}, {0061, 1, 0x1281, 0x1203, V + C},
            {0062, 0, 0x1281, 0x12C0, N + C}, {0063, 1, 0x1281, 0x1202, V + C},
        };
        for (int[] row : bytes) {
            words(0100000 | row[0] << 6);
            x.set(0, row[2]);
            x.set(8, row[1]);
            String what = Integer.toOctalString(row[0]) + " of the byte of " + row[2];
            goes(what, 0);
            reg(what, 0, row[3]);
            reg(what, 8, row[4]);
        }
    }

    private static void jumps() {
        words(0137, 0500);
        goes("JMP @#0500", 0);
        reg("JMP", 7, 0500);
        words(0121);
        x.set(1, 0501);
        goes("JMP (R1)+ to an odd place", 0);
        reg("JMP", 7, 0501);
        reg("JMP (R1)+", 1, 0503);
        goes("an instruction at an odd place", 3);
        reg("an instruction at an odd place: PC stays", 7, 0501);
        words(0101);
        goes("JMP R1", 2);
        words(04137, 0500);
        regs(0, 0123, 0);
        x.set(6, 0700);
        goes("JSR R1", 0);
        reg("JSR", 7, 0500);
        reg("JSR", 1, HERE + 4);
        reg("JSR", 6, 0676);
        word("JSR", 0676, 0123);
        words(04111);
        x.set(6, 0700);
        goes("JSR R1,(R1) to 0", 0);
        reg("JSR to 0", 7, 0);
        words(0111);
        goes("JMP (R1) to 0", 0);
        reg("JMP to 0", 7, 0);
        words(04121);
        x.set(1, 0500);
        x.set(6, 0700);
        goes("JSR R1,(R1)+: r as it is then", 0);
        word("JSR R1,(R1)+", 0676, 0502);
        reg("JSR R1,(R1)+", 7, 0500);
        words(04637, 0500);
        x.set(6, 0700);
        goes("JSR R6", 0);
        word("JSR R6", 0676, 0700);
        reg("JSR R6", 6, HERE + 4);
        words(04737, 0500);
        x.set(6, 0700);
        goes("JSR PC", 0);
        word("JSR PC", 0676, HERE + 4);
        reg("JSR PC", 7, 0500);
        words(04100);
        goes("JSR with way 0", 2);
        words(04137, 0500);
        x.set(6, 0701);
        goes("JSR with an odd stack", 3);
        reg("JSR with an odd stack", 6, 0677);
        reg("JSR with an odd stack", 7, HERE + 4);
    }

    private static void returns() {
        words(0201);
        regs(0, 0500, 0);
        x.set(6, 0676);
        x.poke(0676, 0123);
        goes("RTS R1", 0);
        reg("RTS", 7, 0500);
        reg("RTS", 1, 0123);
        reg("RTS", 6, 0700);
        words(0207);
        x.set(6, 0676);
        x.poke(0676, 0500);
        goes("RTS PC", 0);
        reg("RTS PC", 7, 0500);
        words(0206);
        x.set(6, 0676);
        x.poke(0676, 0500);
        goes("RTS R6", 0);
        reg("RTS R6", 7, 0676);
        reg("RTS R6", 6, 0502);
        words(0201);
        regs(0, 0500, 0);
        x.set(6, 020000);
        goes("RTS without a word", 3);
        reg("RTS without a word", 7, 0500);
        reg("RTS without a word", 6, 020000);
    }

    private static void swapAndExtend() {
        words(0300);
        x.set(0, 0x80FF);
        x.set(8, V + C);
        goes("SWAB", 0);
        reg("SWAB", 0, 0xFF80);
        reg("SWAB", 8, N);
        words(0300);
        x.set(0, 0x0180);
        x.set(8, N);
        goes("SWAB", 0);
        reg("SWAB", 0, 0x8001);
        reg("SWAB to 1", 8, 0);
        words(0300);
        x.set(0, 0x00FF);
        goes("SWAB", 0);
        reg("SWAB to 0", 8, Z);
        words(0300);
        x.set(0, 0);
        goes("SWAB of 0", 0);
        reg("SWAB of 0", 8, Z);
        words(06700);
        x.set(8, N + Z + V + C);
        goes("SXT", 0);
        reg("SXT", 0, 0177777);
        reg("SXT", 8, N + C);
        words(06700);
        x.set(0, 5);
        x.set(8, 0);
        goes("SXT", 0);
        reg("SXT of 0", 0, 0);
        reg("SXT of 0", 8, Z);
    }

    private static void branches() {
        int[] codes = {
            0000400, 0001000, 0001400, 0002000, 0002400, 0003000, 0003400,
            0100000, 0100400, 0101000, 0101400, 0102000, 0102400, 0103000, 0103400,
        };
        for (int flags = 0; flags < 16; flags++) {
            boolean n = (flags & N) != 0;
            boolean z = (flags & Z) != 0;
            boolean v = (flags & V) != 0;
            boolean c = (flags & C) != 0;
            boolean[] goes = {
                true, !z, z, n == v, n != v, n == v && !z, z || n != v,
                !n, n, !c && !z, c || z, !v, v, !c, c,
            };
            for (int i = 0; i < codes.length; i++) {
                words(codes[i] + 0375);
                x.set(8, flags);
                String what = "branch " + Integer.toOctalString(codes[i]) + " with flags " + flags;
                goes(what, 0);
                reg(what, 7, goes[i] ? HERE + 2 - 6 : HERE + 2);
                reg(what, 8, flags);
            }
        }
        words(0577);
        goes("BR +127", 0);
        reg("BR +127", 7, HERE + 2 + 254);
        words(0600);
        goes("BR -128", 0);
        reg("BR -128", 7, HERE + 2 - 256);
    }

    private static void flags() {
        for (int low = 0; low < 16; low++) {
            words(0240 + low, 0260 + low);
            x.set(8, 15);
            goes("flags off", 0);
            reg("flags off", 8, 15 - low);
            x.set(8, 0);
            goes("flags on", 0);
            reg("flags on", 8, low);
        }
    }

    private static void stops() {
        int[] illegal = {
            1, 2, 3, 4, 5, 6, 7, 010, 077, 0210, 0237, 06400, 06500, 06600, 07000, 07777,
            073000, 075000, 076777, 0104400, 0104777, 0106400, 0106500, 0106600, 0106700, 0107777,
            0170000, 0177777, 0100, 04000, 071100,
        };
        for (int word : illegal) {
            words(word);
            goes("illegal " + Integer.toOctalString(word), 2);
            reg("illegal " + Integer.toOctalString(word), 7, HERE + 2);
        }
        words(0);
        goes("HALT", 1);
        words(0104000);
        goes("EMT 0", 4);
        reg("EMT", 7, HERE + 2);
        words(0104377);
        goes("EMT 255", 4);
        x = new SchemeEleven();
        x.set(7, 8192);
        goes("no instruction", 3);
        reg("no instruction: PC stays", 7, 8192);
        reg("no instruction: it counts", 9, 1);
        x.poke(8190, 0240);
        x.set(7, 8190);
        goes("the last word", 0);
        reg("the last word", 7, 8192);
    }

    private static void stopsWithin() {
        words(05021);
        x.set(1, 0501);
        x.set(8, N);
        goes("CLR (R1)+ at an odd place", 3);
        reg("registers by operands changed", 1, 0503);
        reg("flags change last", 8, N);
        words(05031);
        x.set(1, 020000);
        goes("CLR @(R1)+ without a word", 3);
        reg("of way 3 r stays", 1, 020000);
        words(05031);
        x.set(1, 0500);
        x.poke(0500, 0601);
        goes("CLR @(R1)+ to an odd place", 3);
        reg("of way 3 r is 2 more then", 1, 0502);
        words(05051);
        x.set(1, 0501);
        goes("CLR @-(R1) without a word", 3);
        reg("of way 5 r is 2 less first", 1, 0477);
        words(012127, 0);
        x.set(1, 020000);
        goes("MOV (R1)+ beyond the memory", 3);
        reg("the first operand's register", 1, 020002);
        reg("the second operand isn't worked", 7, HERE + 2);
        words(0105011);
        x.set(1, 8191);
        x.poke(8190, 0xFFFF);
        goes("CLRB at the last byte", 0);
        word("CLRB at the last byte", 8190, 0xFF);
        words(0105011);
        x.poke(0, 0xFFFF);
        goes("CLRB at the first byte", 0);
        word("CLRB at the first byte", 0, 0xFF00);
        words(0105011);
        x.set(1, 8192);
        goes("CLRB behind the last byte", 3);
        x = new SchemeEleven();
        x.poke(8190, 05067);
        x.set(7, 8190);
        goes("CLR X(PC) without an X", 3);
        reg("PC stays if its own word isn't there", 7, 8192);
        words(016161, 2, 4);
        x.set(1, 0500);
        x.poke(0502, 077);
        goes("MOV 2(R1),4(R1)", 0);
        word("MOV 2(R1),4(R1)", 0504, 077);
        words(060111);
        x.set(1, 0177776);
        goes("ADD R1,(R1) beyond the memory", 3);
        reg("ADD beyond the memory", 1, 0177776);
    }
}
