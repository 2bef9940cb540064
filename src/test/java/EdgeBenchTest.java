/** The edges that part 1 of the document names: bounds of words, wrap-around, and all stops. */
public final class EdgeBenchTest {
    private static final int N = 8;
    private static final int Z = 4;
    private static final int V = 2;
    private static final int C = 1;
    private static final int HERE = 01000;
    private static final int LEAST = 0100000;
    private static final int GREATEST = 077777;
    private static final int ONES = 0177777;

    private static SchemeEleven x;

    public static void main(String[] args) {
        atFirst();
        lowerByteFirst();
        placesGoRound();
        jumpsGoRound();
        sumsGoRound();
        stackGoesRound();
        byteSteps();
        wordSteps();
        wordsAlone();
        wholeWords();
        lowerBytes();
        indexes();
        order();
        moveBytes();
        compare();
        add();
        subtract();
        multiply();
        multiplyIntoTwo();
        divide();
        divideOdd();
        shift();
        loop();
        ones();
        carries();
        rotations();
        carryStays();
        jumpByWayZero();
        subroutines();
        swap();
        extend();
        branchBounds();
        flagBounds();
        everyWord();
        lastOfGroups();
        halts();
        traps();
        lastPlaces();
        noPlaces();
        passedWords();
        registersStay();
        flagsLast();
        Check.finish();
    }

    private static void words(int... all) {
        x = new SchemeEleven();
        for (int i = 0; i < all.length; i++) {
            x.poke(HERE + 2 * i, all[i]);
        }
        x.set(7, HERE);
    }

    private static void regs(int r0, int r1, int r2) {
        x.set(0, r0);
        x.set(1, r1);
        x.set(2, r2);
    }

    private static void goes(String what, int want) {
        Check.due(what + ": go(1)", x.go(1), want);
    }

    private static void reg(String what, int k, int want) {
        Check.due(what + ": held(" + k + ")", x.held(k), want);
    }

    private static void word(String what, int place, int want) {
        Check.due(what + ": peek(" + place + ")", x.peek(place), want);
    }

    private static String octal(int word) {
        return Integer.toOctalString(word);
    }

    private static void atFirst() {
        Check.sentence("A MEMORY of bytes (0 at first)");
        x = new SchemeEleven();
        int sum = 0;
        for (int place = 0; place < 8192; place += 2) {
            sum |= x.peek(place);
        }
        Check.due("all words", sum, 0);
        Check.sentence("REGISTERS R0 .. R7, words, 0 at first");
        for (int k = 0; k <= 7; k++) {
            reg("at first", k, 0);
        }
        Check.sentence("FLAGS N, Z, V, C, 0 at first");
        reg("at first", 8, 0);
    }

    private static void lowerByteFirst() {
        Check.sentence("a WORD is two, at an even place, the lower one first: 0 .. 65535");
        words(0111100, 0111201);
        regs(0, 0500, 0501);
        x.poke(0500, 0x1234);
        goes("MOVB (R1),R0", 0);
        reg("the lower byte", 0, 0x34);
        goes("MOVB (R2),R1", 0);
        reg("the higher byte", 1, 0x12);
    }

    private static void placesGoRound() {
        Check.sentence("All goes round by 65536");
        words(0121);
        x.set(1, 65534);
        goes("JMP (R1)+ from 65534", 0);
        reg("the place", 7, 65534);
        reg("R1 is round", 1, 0);
        words(0121);
        x.set(1, 65535);
        goes("JMP (R1)+ from 65535", 0);
        reg("R1 is round", 1, 1);
        words(0141);
        x.set(1, 0);
        goes("JMP -(R1) from 0", 0);
        reg("the place", 7, 65534);
        reg("R1 is round", 1, 65534);
        words(0161, 3);
        x.set(1, 65535);
        goes("JMP 3(R1)", 0);
        reg("r + X is round", 7, 2);
        words(0171, 0502);
        x.set(1, 65534);
        x.poke(0500, 0600);
        goes("JMP @X(R1)", 0);
        reg("r + X is round", 7, 0600);
        words(0105021);
        x.set(1, 65535);
        goes("CLRB (R1)+ at 65535", 3);
        reg("R1 is round", 1, 0);
        words(0105041);
        x.set(1, 0);
        goes("CLRB -(R1) from 0", 3);
        reg("R1 is round", 1, 65535);
        words(05051);
        x.set(1, 1);
        goes("CLR @-(R1) from 1", 3);
        reg("R1 is round", 1, 65535);
    }

    private static void jumpsGoRound() {
        Check.sentence("All goes round by 65536");
        x = new SchemeEleven();
        x.poke(0, 0600);
        goes("BR -128 at 0", 0);
        reg("PC is round", 7, 65536 + 2 - 256);
        goes("no instruction there", 3);
        reg("PC stays", 7, 65536 + 2 - 256);
        x = new SchemeEleven();
        x.poke(0, 077077);
        x.set(0, 5);
        goes("SOB 63 back at 0", 0);
        reg("PC is round", 7, 65536 + 2 - 126);
        x = new SchemeEleven();
        x.poke(8190, 0577);
        x.set(7, 8190);
        goes("BR +127 at the last word", 0);
        reg("PC is behind the memory", 7, 8192 + 254);
        words(062707, 0177770);
        goes("ADD #-8,PC", 0);
        reg("PC is 8 less", 7, HERE + 4 - 8);
    }

    private static void sumsGoRound() {
        Check.sentence("All goes round by 65536");
        int[][] rows = {
            {060001, 65535, 2, 1}, {0160001, 1, 0, 65535}, {05201, 0, 65535, 0}, {05301, 0, 0, 65535},
            {05401, 0, 1, 65535}, {0105201, 0, 0x12FF, 0x1200}, {0105301, 0, 0x1200, 0x12FF},
            {0105401, 0, 0x1201, 0x12FF}, {06301, 0, 0xC000, 0x8000},
        };
        for (int[] row : rows) {
            words(row[0]);
            regs(row[1], row[2], 0);
            goes(octal(row[0]), 0);
            reg(octal(row[0]) + " of " + row[2], 1, row[3]);
        }
    }

    private static void stackGoesRound() {
        Check.sentence("All goes round by 65536");
        words(04137, 0500);
        x.set(1, 7);
        x.set(6, 0);
        goes("JSR with R6 0", 3);
        reg("R6 is round", 6, 65534);
        reg("r stays", 1, 7);
        words(04137, 0500);
        x.set(1, 7);
        x.set(6, 2);
        goes("JSR with R6 2", 0);
        word("the first word", 0, 7);
        reg("R6", 6, 0);
        words(0201);
        x.set(6, 8190);
        x.poke(8190, 9);
        goes("RTS by the last word", 0);
        reg("R6", 6, 8192);
        reg("R1", 1, 9);
    }

    private static void byteSteps() {
        Check.sentence("2 the place r; r is 2 more then (of bytes 1, unless r is R6 or R7)");
        for (int k = 0; k <= 6; k++) {
            words(0105020 + k);
            x.set(k, 0500);
            x.poke(0500, 0x7777);
            goes("CLRB (R" + k + ")+", 0);
            reg("of bytes", k, k == 6 ? 0502 : 0501);
            word("the byte", 0500, 0x7700);
        }
        words(0112700, 0x1234);
        goes("MOVB #,R0", 0);
        reg("of R7", 7, HERE + 4);
        reg("the byte", 0, 0x34);
        Check.sentence("4 r is 2 less first (1 likewise), then the place r");
        for (int k = 0; k <= 6; k++) {
            words(0105040 + k);
            x.set(k, 0502);
            x.poke(0500, 0x7777);
            goes("CLRB -(R" + k + ")", 0);
            reg("of bytes", k, k == 6 ? 0500 : 0501);
            word("the byte", 0500, k == 6 ? 0x7700 : 0x0077);
        }
        words(0105047);
        goes("CLRB -(PC)", 0);
        reg("of R7", 7, HERE);
        word("the instruction's own byte", HERE, 0105047 & 0xFF00);
    }

    private static void wordSteps() {
        Check.sentence("3 the place that the word at r tells; r is 2 more then");
        words(0105031);
        x.set(1, 0500);
        x.poke(0500, 0601);
        x.poke(0600, 0x7777);
        goes("CLRB @(R1)+", 0);
        reg("of bytes 2, too", 1, 0502);
        word("the byte", 0600, 0x0077);
        Check.sentence("5 r is 2 less first, then the place that the word at r tells");
        words(0105051);
        x.set(1, 0502);
        x.poke(0500, 0601);
        x.poke(0600, 0x7777);
        goes("CLRB @-(R1)", 0);
        reg("of bytes 2, too", 1, 0500);
        word("the byte", 0600, 0x0077);
    }

    /** What has no form of bytes steps by 2, for each of its operands. */
    private static void wordsAlone() {
        Check.sentence("2 the place r; r is 2 more then (of bytes 1");
        int[] codes = {060021, 062100, 0160021, 0162100, 070221, 071221, 072021, 074021, 0321, 06721, 0121, 04021, 012100, 010021, 05021};
        for (int code : codes) {
            words(code);
            x.set(0, 2);
            x.set(1, 0500);
            x.set(6, 0700);
            x.poke(0500, 1);
            goes(octal(code), 0);
            reg(octal(code) + " by (R1)+", 1, 0502);
        }
        int[] down = {060041, 064100, 0160041, 0164100, 070241, 071241, 072041, 074041, 0341, 06741, 0141, 04041, 014100, 010041, 05041};
        for (int code : down) {
            words(code);
            x.set(1, 0502);
            x.set(6, 0700);
            goes(octal(code), 0);
            reg(octal(code) + " by -(R1)", 1, 0500);
        }
    }

    /** Both bytes of a word in memory take part, all their bits. */
    private static void wholeWords() {
        Check.sentence("b 0, or 1 with bytes in place of words");
        int[][] rows = {
            // instruction, R0, the word ahead, the word then
            {060011, 0x0101, 0x1203, 0x1304}, {0160011, 0x0101, 0x1203, 0x1102}, {074011, 0xFF0F, 0x1234, 0xED3B},
            {0311, 0, 0x1234, 0x3412}, {06711, 0, 0x1234, 0}, {010011, 0x8181, 0x1234, 0x8181}, {05111, 0, 0x1234, 0xEDCB},
            {0110011, 0x8181, 0x1234, 0x1281}, {0105211, 0, 0x1234, 0x1235}, {0150011, 0x0101, 0x1234, 0x1235},
            {0105111, 0, 0x1234, 0x12CB}, {040011, 0x0210, 0x1234, 0x1024}, {050011, 0x0101, 0x1234, 0x1335},
        };
        for (int[] row : rows) {
            words(row[0]);
            x.set(0, row[1]);
            x.set(1, 0500);
            x.poke(0500, row[2]);
            goes(octal(row[0]), 0);
            word(octal(row[0]), 0500, row[3]);
        }
        words(0110011, 0110011);
        regs(0x8181, 0501, 0);
        x.poke(0500, 0x1234);
        goes("MOVB to the higher byte", 0);
        word("all its bits", 0500, 0x8134);
    }

    private static void lowerBytes() {
        Check.sentence("0 r itself (of bytes its lower one)");
        words(0105100);
        x.set(0, 0x12F0);
        goes("COMB R0", 0);
        reg("the higher one stays", 0, 0x120F);
        words(0150001);
        regs(0xFF01, 0x1200, 0);
        goes("BISB R0,R1", 0);
        reg("the higher one stays", 1, 0x1201);
    }

    private static void indexes() {
        Check.sentence("6 X is the word at PC, which is 2 more then; the place r + X");
        words(016767, 4, 6, 0, 0123, 0, 0);
        goes("MOV 4(PC),6(PC)", 0);
        word("by PC as it is behind each X", HERE + 12, 0123);
        Check.sentence("7 the place that the word at r + X (as in 6) tells");
        words(05077, 2, 0, 0500);
        x.poke(0500, 7);
        goes("CLR @2(PC)", 0);
        word("the place that is told", 0500, 0);
        word("the word that tells it", HERE + 6, 0500);
    }

    private static void order() {
        Check.sentence("The first of two operands is worked wholly, and what is there taken, ahead of the second");
        words(010142);
        regs(0, 0111, 0502);
        goes("MOV R1,-(R2)", 0);
        word("MOV R1,-(R2)", 0500, 0111);
        words(010242);
        regs(0, 0, 0502);
        goes("MOV R2,-(R2)", 0);
        word("R2 was taken ahead", 0500, 0502);
        words(022222);
        regs(0, 0, 0500);
        x.poke(0500, 1);
        x.poke(0502, 2);
        goes("CMP (R2)+,(R2)+", 0);
        reg("1 with 2", 8, N + C);
        reg("both steps", 2, 0504);
        Check.sentence("s or d ahead of r (of DIV r is looked at first)");
        words(070123);
        x.set(3, 0500);
        x.set(1, 3);
        x.poke(0500, 5);
        goes("MUL (R3)+,R1", 0);
        reg("MUL", 1, 15);
        words(070121);
        x.set(1, 0500);
        x.poke(0500, 2);
        goes("MUL (R1)+,R1: r behind s", 0);
        reg("MUL", 1, 01204);
        words(072121);
        x.set(1, 0500);
        x.poke(0500, 1);
        goes("ASH (R1)+,R1: r behind s", 0);
        reg("ASH", 1, 01204);
        words(074141);
        x.set(1, 0502);
        goes("XOR R1,-(R1): r behind d", 0);
        word("XOR", 0500, 0500);
    }

    private static void moveBytes() {
        Check.sentence("d becomes s (R0 .. R7 by a byte: that with its sign as a word)");
        int[][] rows = {{0x127F, 0x007F, 0}, {0x1280, 0xFF80, N}, {0x12FF, 0xFFFF, N}, {0xFF00, 0, Z}};
        for (int[] row : rows) {
            words(0110001);
            regs(row[0], 0x5555, 0);
            x.set(8, V + C);
            goes("MOVB R0,R1", 0);
            reg("MOVB of " + row[0], 1, row[1]);
            reg("MOVB of " + row[0], 8, row[2] + C);
        }
        words(0110011);
        regs(0x1280, 0500, 0);
        x.poke(0500, 0x5555);
        goes("MOVB R0,(R1)", 0);
        word("a byte alone", 0500, 0x5580);
    }

    private static void compare() {
        Check.sentence("V if the signs of s and d are unlike and d's is that of what comes; C if s is below d (without signs)");
        int[][] rows = {
            {GREATEST, ONES, N + V + C}, {LEAST, 1, V}, {LEAST, GREATEST, V}, {GREATEST, LEAST, N + V + C},
            {0, ONES, C}, {ONES, 0, N}, {0, 0, Z}, {LEAST, LEAST, Z}, {0, 1, N + C}, {1, 0, 0},
            {0, LEAST, N + V + C}, {LEAST, 0, N}, {ONES, GREATEST, N}, {0177776, ONES, N + C},
        };
        for (int[] row : rows) {
            words(020001);
            regs(row[0], row[1], 0);
            goes("CMP", 0);
            reg("CMP " + row[0] + " with " + row[1], 8, row[2]);
        }
        int[][] bytes = {
            {0x7F, 0xFF, N + V + C}, {0x80, 1, V}, {0xFF00, 0x0100, Z}, {0, 0x80, N + V + C}, {0xFF, 0x7F, N},
        };
        for (int[] row : bytes) {
            words(0120001);
            regs(row[0], row[1], 0);
            goes("CMPB", 0);
            reg("CMPB " + row[0] + " with " + row[1], 8, row[2]);
        }
    }

    private static void add() {
        Check.sentence("V if their signs are alike and the sum's is another one; C if it is above 65535");
        int[][] rows = {
            {GREATEST, 1, LEAST, N + V}, {GREATEST, 0, GREATEST, 0}, {LEAST, ONES, GREATEST, V + C},
            {LEAST, LEAST, 0, Z + V + C}, {ONES, 1, 0, Z + C}, {ONES, 0, ONES, N}, {ONES, ONES, 0177776, N + C},
            {GREATEST, LEAST, ONES, N}, {GREATEST, GREATEST, 0177776, N + V},
        };
        for (int[] row : rows) {
            words(060001);
            regs(row[0], row[1], 0);
            goes("ADD", 0);
            reg("ADD " + row[0] + " to " + row[1], 1, row[2]);
            reg("ADD " + row[0] + " to " + row[1], 8, row[3]);
        }
    }

    private static void subtract() {
        Check.sentence("V if their signs are unlike and s's is that of what comes; C if d is below s");
        int[][] rows = {
            {1, LEAST, GREATEST, V}, {0, LEAST, LEAST, N}, {ONES, GREATEST, LEAST, N + V + C},
            {1, 0, ONES, N + C}, {0, 0, 0, Z}, {ONES, 0, 1, C}, {LEAST, 0, LEAST, N + V + C},
            {LEAST, LEAST, 0, Z}, {GREATEST, LEAST, 1, V}, {ONES, 0177776, ONES, N + C},
        };
        for (int[] row : rows) {
            words(0160001);
            regs(row[0], row[1], 0);
            goes("SUB", 0);
            reg("SUB " + row[0] + " from " + row[1], 1, row[2]);
            reg("SUB " + row[0] + " from " + row[1], 8, row[3]);
        }
    }

    private static void multiply() {
        Check.sentence("N, Z by the product, V 0, C if it isn't in a SIGNED word");
        int[][] rows = {
            {1, GREATEST, 0, GREATEST, 0}, {2, 040000, 0, LEAST, C}, {ONES, LEAST, 0, LEAST, C},
            {1, LEAST, ONES, LEAST, N}, {3, 65536 - 10923, ONES, GREATEST, N + C}, {LEAST, LEAST, 040000, 0, C},
            {0, LEAST, 0, 0, Z}, {LEAST, 0, 0, 0, Z}, {ONES, ONES, 0, 1, 0}, {GREATEST, GREATEST, 037777, 1, C},
            {0400, 0400, 1, 0, C}, {GREATEST, LEAST, 0140000, LEAST, N + C},
        };
        for (int[] row : rows) {
            String what = "MUL " + row[0] + " by " + row[1];
            words(070002);
            regs(row[0], 0, row[1]);
            x.set(8, V);
            goes(what, 0);
            reg(what, 0, row[2]);
            reg(what, 1, row[3]);
            reg(what, 8, row[4]);
            words(070102);
            regs(0123, row[0], row[1]);
            x.set(8, V);
            goes(what, 0);
            reg(what + ", r odd: the register before", 0, 0123);
            reg(what + ", r odd: the lower word", 1, row[3]);
            reg(what + ", r odd", 8, row[4]);
        }
    }

    private static void multiplyIntoTwo() {
        Check.sentence("its lower word becomes r, if r is odd; else its higher word becomes r, the lower one the next register");
        words(070627, 3);
        x.set(6, 0400);
        goes("MUL #3,R6", 0);
        reg("higher", 6, 0);
        reg("lower, R7", 7, 01400);
        words(070527, 3);
        x.set(5, 5);
        x.set(4, 9);
        goes("MUL #3,R5", 0);
        reg("lower", 5, 15);
        reg("R4 stays", 4, 9);
        reg("R6 stays", 6, 0);
    }

    private static void divide() {
        Check.sentence("if s is 0: V 1, C 1, if the quotient isn't in a SIGNED word: V 1, C 0, and nothing else");
        int[][] rows = {
            // D's higher and lower word, s, quotient, rest, flags; N and Z are 1 ahead
            {0, GREATEST, 1, GREATEST, 0, 0}, {0, LEAST, 1, 0, LEAST, N + Z + V},
            {ONES, LEAST, 1, LEAST, 0, N}, {ONES, GREATEST, 1, ONES, GREATEST, N + Z + V},
            {0, LEAST, ONES, LEAST, 0, N}, {0, LEAST + 1, ONES, 0, LEAST + 1, N + Z + V},
            {ONES, LEAST, ONES, ONES, LEAST, N + Z + V}, {ONES, LEAST + 1, ONES, GREATEST, 0, 0},
            {LEAST, 0, ONES, LEAST, 0, N + Z + V}, {LEAST, 0, 1, LEAST, 0, N + Z + V},
            {0, 0, 0, 0, 0, N + Z + V + C}, {5, 7, 0, 5, 7, N + Z + V + C}, {0, 0, 7, 0, 0, Z},
            {0, 7, 0177775, 0177776, 1, N}, {ONES, 0177771, 3, 0177776, ONES, N},
            {ONES, 0177771, 0177775, 2, ONES, 0}, {ONES, 0177776, 3, 0, 0177776, Z},
            {0, 65535, 2, GREATEST, 1, 0}, {1, 0, 2, 1, 0, N + Z + V}, {LEAST, 0, LEAST, LEAST, 0, N + Z + V},
            {077777, ONES, LEAST, 077777, ONES, N + Z + V}, {037777, ONES, LEAST, 0100001, GREATEST, N},
        };
        for (int[] row : rows) {
            String what = "DIV " + row[0] + ", " + row[1] + " by " + row[2];
            words(071002);
            regs(row[0], row[1], row[2]);
            x.set(8, N + Z);
            goes(what, 0);
            reg(what + ", quotient", 0, row[3]);
            reg(what + ", rest", 1, row[4]);
            reg(what, 8, row[5]);
        }
        words(071022);
        regs(1, 2, 0500);
        goes("DIV (R2)+,R0 by 0", 0);
        reg("s was worked", 2, 0502);
        reg("r stays", 0, 1);
    }

    private static void divideOdd() {
        Check.sentence("071rs DIV (ILLEGAL, if r is odd)");
        for (int k = 0; k <= 7; k++) {
            words(071002 + 0100 * k + 020);
            x.set(2, 0500);
            x.poke(0500, 1);
            goes("DIV (R2)+,R" + k, k % 2 == 1 ? 2 : 0);
            if (k % 2 == 1) {
                reg("of DIV r is looked at first", 2, 0502 - 2);
                reg("PC", 7, HERE + 2);
            }
        }
        words(071122);
        x.set(2, 1);
        goes("DIV by what isn't there, r odd", 2);
    }

    private static void shift() {
        Check.sentence("as the lowest six bits of s with a sign (-32 .. 31) tell, below 0 to the right (the sign stays)");
        int[][] rows = {
            // r, s, what comes, flags
            {ONES, 31, 0, Z + V}, {1, 31, 0, Z + V}, {LEAST, 32, ONES, N + C}, {GREATEST, 32, 0, Z},
            {LEAST, 33, ONES, N + C}, {ONES, 63, ONES, N + C}, {1, 63, 0, Z + C}, {2, 63, 1, 0},
            {LEAST, 64 - 15, ONES, N}, {LEAST, 64 - 16, ONES, N + C}, {1, 15, LEAST, N + V}, {1, 16, 0, Z + V + C},
            {5, 64, 5, 0}, {5, 0177700, 5, 0}, {5, 0177701, 10, 0}, {5, 0177777, 2, C}, {0, 31, 0, Z}, {0, 0, 0, Z},
        };
        for (int[] row : rows) {
            words(072001);
            regs(row[0], row[1], 0);
            x.set(8, N + Z + V + C);
            goes("ASH", 0);
            reg("ASH " + row[0] + " by " + row[1], 0, row[2]);
            reg("ASH " + row[0] + " by " + row[1], 8, row[3]);
        }
        Check.sentence("V if its sign changed at some bit; C the bit that went out last, 0 without one");
        int[][] more = {
            {0x4000, 1, 0x8000, N + V}, {0x4000, 2, 0, Z + V + C}, {0x2000, 1, 0x4000, 0}, {0xC000, 1, 0x8000, N + C},
            {0xC000, 2, 0, Z + V + C}, {0xA000, 2, 0x8000, N + V}, {0x5000, 3, 0x8000, N + V}, {LEAST, 0, LEAST, N},
        };
        for (int[] row : more) {
            words(072001);
            regs(row[0], row[1], 0);
            x.set(8, Z + V + C);
            goes("ASH", 0);
            reg("ASH " + row[0] + " by " + row[1], 0, row[2]);
            reg("ASH " + row[0] + " by " + row[1], 8, row[3]);
        }
    }

    private static void loop() {
        Check.sentence("r is 1 less; if it isn't 0 then, PC is 2 nn less");
        int[][] rows = {
            // r, nn, r then, PC then
            {1, 1, 0, HERE + 2}, {2, 1, 1, HERE}, {0, 1, 65535, HERE}, {2, 0, 1, HERE + 2},
            {2, 63, 1, HERE + 2 - 126}, {LEAST, 2, GREATEST, HERE - 2},
        };
        for (int[] row : rows) {
            words(077000 + row[1]);
            x.set(0, row[0]);
            x.set(8, N + Z + V + C);
            goes("SOB", 0);
            reg("SOB of " + row[0], 0, row[2]);
            reg("SOB of " + row[0] + " by " + row[1], 7, row[3]);
            reg("SOB", 8, N + Z + V + C);
        }
    }

    private static void single(int op, int carry, int old, int now, int flags) {
        words(op);
        x.set(0, old);
        x.set(8, N + Z + V + carry);
        String what = octal(op) + " of " + octal(old) + " with C " + carry;
        goes(what, 0);
        reg(what, 0, now);
        reg(what, 8, flags);
    }

    private static void ones() {
        Check.sentence("b052d INC: 1 more; NZ; V if it was the greatest SIGNED");
        single(05200, 1, GREATEST, LEAST, N + V + C);
        single(05200, 0, GREATEST - 1, GREATEST, 0);
        single(05200, 0, ONES, 0, Z);
        single(05200, 1, LEAST, LEAST + 1, N + C);
        single(0105200, 0, 0x107F, 0x1080, N + V);
        single(0105200, 1, 0x10FF, 0x1000, Z + C);
        single(0105200, 0, 0x107E, 0x107F, 0);
        Check.sentence("b053d DEC: 1 less; NZ; V if it was the least");
        single(05300, 1, LEAST, GREATEST, V + C);
        single(05300, 0, LEAST + 1, LEAST, N);
        single(05300, 0, 0, ONES, N);
        single(05300, 1, 1, 0, Z + C);
        single(0105300, 0, 0x1080, 0x107F, V);
        single(0105300, 1, 0x1000, 0x10FF, N + C);
        Check.sentence("b054d NEG: 0 less it; NZ; V if the least comes; C if not 0 comes");
        single(05400, 0, LEAST, LEAST, N + V + C);
        single(05400, 1, 0, 0, Z);
        single(05400, 0, GREATEST, LEAST + 1, N + C);
        single(05400, 0, ONES, 1, C);
        single(0105400, 0, 0x1080, 0x1080, N + V + C);
        single(0105400, 1, 0x1000, 0x1000, Z);
    }

    private static void carries() {
        Check.sentence("b055d ADC: C more; NZ; V if it was the greatest and C 1; C if it was all 1s and C 1");
        single(05500, 1, GREATEST, LEAST, N + V);
        single(05500, 0, GREATEST, GREATEST, 0);
        single(05500, 1, ONES, 0, Z + C);
        single(05500, 0, ONES, ONES, N);
        single(05500, 1, 0, 1, 0);
        single(05500, 0, 0, 0, Z);
        single(0105500, 1, 0x107F, 0x1080, N + V);
        single(0105500, 1, 0x10FF, 0x1000, Z + C);
        single(0105500, 0, 0x10FF, 0x10FF, N);
        Check.sentence("b056d SBC: C less; NZ; V if it was the least and C 1; C if it was 0 and C 1");
        single(05600, 1, LEAST, GREATEST, V);
        single(05600, 0, LEAST, LEAST, N);
        single(05600, 1, 0, ONES, N + C);
        single(05600, 0, 0, 0, Z);
        single(05600, 1, 1, 0, Z);
        single(0105600, 1, 0x1080, 0x107F, V);
        single(0105600, 1, 0x1000, 0x10FF, N + C);
        single(0105600, 0, 0x1000, 0x1000, Z);
        Check.sentence("b057d TST: NZ, V 0, C 0");
        single(05700, 1, LEAST, LEAST, N);
        single(05700, 1, 0, 0, Z);
        single(0105700, 1, 0xFF00, 0xFF00, Z);
        single(0105700, 1, 0x0080, 0x0080, N);
        Check.sentence("b050d CLR: 0; NZ, V 0, C 0. b051d COM: all bits turned; NZ, V 0, C 1");
        single(05000, 1, ONES, 0, Z);
        single(0105000, 1, ONES, 0xFF00, Z);
        single(05100, 0, ONES, 0, Z + C);
        single(05100, 0, 0, ONES, N + C);
        single(0105100, 0, 0x10FF, 0x1000, Z + C);
    }

    private static void rotations() {
        Check.sentence("NZ; C the bit that went out; V whether N and C are unlike then");
        single(06000, 1, 0, LEAST, N + V);
        single(06000, 1, 1, LEAST, N + C);
        single(06000, 0, 1, 0, Z + V + C);
        single(06000, 0, 0, 0, Z);
        single(06100, 1, LEAST, 1, V + C);
        single(06100, 0, LEAST, 0, Z + V + C);
        single(06100, 1, GREATEST, ONES, N + V);
        single(06100, 0, ONES, ONES - 1, N + C);
        single(06200, 0, LEAST, 0140000, N + V);
        single(06200, 0, ONES, ONES, N + C);
        single(06200, 1, 1, 0, Z + V + C);
        single(06200, 1, 0, 0, Z);
        single(06300, 1, LEAST, 0, Z + V + C);
        single(06300, 1, 040000, LEAST, N + V);
        single(06300, 1, ONES, ONES - 1, N + C);
        single(0106000, 1, 0x1000, 0x1080, N + V);
        single(0106000, 0, 0x1101, 0x1100, Z + V + C);
        single(0106100, 1, 0x1080, 0x1001, V + C);
        single(0106100, 0, 0x1040, 0x1080, N + V);
        single(0106200, 1, 0x1080, 0x10C0, N + V);
        single(0106200, 0, 0x1101, 0x1100, Z + V + C);
        single(0106300, 1, 0x1080, 0x1000, Z + V + C);
        single(0106300, 0, 0x1040, 0x1080, N + V);
    }

    private static void carryStays() {
        Check.sentence("C stays, where it isn't told");
        int[] codes = {010001, 0110001, 030001, 0130001, 040001, 0140001, 050001, 0150001, 05201, 0105201, 05301, 0105301, 074001, 06701};
        for (int code : codes) {
            for (int carry = 0; carry <= 1; carry++) {
                for (int value : new int[] {0, 1, GREATEST, LEAST, ONES}) {
                    words(code);
                    regs(value, value, 0);
                    x.set(8, V + carry);
                    goes(octal(code), 0);
                    Check.due(octal(code) + " of " + value + " with C " + carry, x.held(8) & C, carry);
                }
            }
        }
        Check.sentence("NZ: N is the highest bit of what comes, Z whether it is 0 (of bytes: of the byte)");
        int[][] rows = {
            {010001, 0, Z}, {010001, LEAST, N}, {010001, 1, 0}, {0110001, 0xFF00, Z}, {0110001, 0x0080, N}, {0110001, 0x807F, 0},
            {0130001, 0xFF80, N}, {0130001, 0xFF00, Z}, {030001, 0x0100, 0}, {050001, 0x8000, N}, {0150001, 0x8000, Z},
        };
        for (int[] row : rows) {
            words(row[0]);
            regs(row[1], row[1], 0);
            goes(octal(row[0]), 0);
            reg(octal(row[0]) + " of " + row[1], 8, row[2]);
        }
    }

    private static void jumpByWayZero() {
        Check.sentence("(Both ILLEGAL with way 0.)");
        for (int k = 0; k <= 7; k++) {
            words(0100 + k);
            goes("JMP R" + k, 2);
            reg("PC is passed", 7, HERE + 2);
            words(04500 + k);
            x.set(5, 7);
            x.set(6, 0700);
            goes("JSR R5,R" + k, 2);
            reg("r stays", 5, 7);
            reg("R6 stays", 6, 0700);
            words(0110 + k);
            x.set(k, k == 7 ? HERE : 0500);
            goes("JMP (R" + k + ")", 0);
        }
        Check.sentence("0001d JMP: PC becomes d's place");
        for (int place : new int[] {0501, 8192, 65535}) {
            words(0137, place);
            goes("JMP to " + place, 0);
            reg("PC", 7, place);
            goes("what is there", 3);
            reg("PC stays", 7, place);
        }
    }

    private static void subroutines() {
        Check.sentence("r, as it is then, goes to the stack (R6 is 2 less, the word at R6 becomes that); r becomes PC; PC the place");
        words(04646);
        x.set(6, 0700);
        goes("JSR R6,-(R6)", 0);
        word("r as it is then", 0674, 0676);
        reg("r becomes PC", 6, HERE + 2);
        reg("the place", 7, 0676);
        words(04137, 0500);
        x.set(1, 7);
        x.set(6, 8194);
        goes("JSR, no word at R6", 3);
        reg("R6 is 2 less", 6, 8192);
        reg("r stays", 1, 7);
        reg("PC is passed", 7, HERE + 4);
        words(04137, 0500);
        x.set(6, 8192);
        goes("JSR to the last word", 0);
        reg("R6", 6, 8190);
        Check.sentence("00020r RTS: PC becomes r; then r the word at R6; then R6 is 2 more");
        words(0200);
        x.set(0, 0500);
        x.set(6, 8191);
        goes("RTS with an odd R6", 3);
        reg("PC became r", 7, 0500);
        reg("r stays", 0, 0500);
        reg("R6 stays", 6, 8191);
        words(0206);
        x.set(6, 0600);
        x.poke(0600, ONES);
        goes("RTS R6", 0);
        reg("R6 is 2 more, round", 6, 1);
    }

    private static void swap() {
        Check.sentence("both bytes change places; N, Z by the lower byte that comes, V 0, C 0");
        int[][] rows = {{0x8000, 0x0080, N}, {0x0080, 0x8000, Z}, {0x7FFF, 0xFF7F, 0}, {0, 0, Z}, {0x0100, 1, 0}};
        for (int[] row : rows) {
            words(0300);
            x.set(0, row[0]);
            x.set(8, N + Z + V + C);
            goes("SWAB", 0);
            reg("SWAB of " + row[0], 0, row[1]);
            reg("SWAB of " + row[0], 8, row[2]);
        }
    }

    private static void extend() {
        Check.sentence("-1 if N is 1, else 0; Z whether that is 0, V 0");
        for (int flags = 0; flags < 16; flags++) {
            words(06700);
            x.set(0, 5);
            x.set(8, flags);
            goes("SXT", 0);
            boolean minus = (flags & N) != 0;
            reg("SXT with flags " + flags, 0, minus ? ONES : 0);
            reg("SXT with flags " + flags, 8, (minus ? N : Z) + (flags & C));
        }
    }

    private static void branchBounds() {
        Check.sentence("PC is twice the lowest byte (SIGNED) more");
        int[] low = {0, 1, 127, 128, 255};
        int[] by = {0, 2, 254, -256, -2};
        int[] all = {0400, 01000, 01400, 02000, 02400, 03000, 03400, 0100000, 0100400, 0101000, 0101400, 0102000, 0102400, 0103000, 0103400};
        for (int code : all) {
            for (int flags = 0; flags < 16; flags++) {
                boolean n = (flags & N) != 0;
                boolean z = (flags & Z) != 0;
                boolean v = (flags & V) != 0;
                boolean c = (flags & C) != 0;
                boolean[] so = {true, !z, z, n == v, n != v, n == v && !z, z || n != v, !n, n, !c && !z, c || z, !v, v, !c, c};
                boolean goes = so[(code >> 8 & 7) + (code >= 0100000 ? 7 : -1)];
                words(code + low[flags % 5]);
                x.set(8, flags);
                goes(octal(code), 0);
                reg(octal(code) + " with flags " + flags, 7, HERE + 2 + (goes ? by[flags % 5] : 0));
                reg(octal(code), 8, flags);
            }
        }
        for (int i = 0; i < low.length; i++) {
            words(0400 + low[i]);
            goes("BR", 0);
            reg("BR by " + low[i], 7, HERE + 2 + by[i]);
        }
    }

    private static void flagBounds() {
        Check.sentence("000240 .. 000277: the flags of the bits 8 N, 4 Z, 2 V, 1 C become 1 if bit 16 is 1, else 0");
        for (int word = 0240; word <= 0277; word++) {
            for (int flags = 0; flags < 16; flags += 5) {
                words(word);
                x.set(8, flags);
                goes(octal(word), 0);
                int bits = word & 15;
                reg(octal(word) + " with flags " + flags, 8, (word & 16) != 0 ? flags | bits : flags & ~bits);
            }
        }
        words(0237);
        goes("000237", 2);
        words(0300);
        x.set(0, 1);
        goes("000300, SWAB", 0);
        reg("SWAB", 0, 0x100);
    }

    private static boolean isIllegal(int word) {
        int group = word >> 6 & 0777;
        int way = word >> 3 & 7;
        boolean high = word >= 0100000;
        switch (word >> 12 & 7) {
            case 0: break;
            case 7: return high || group % 0100 / 010 == 3 || group % 0100 / 010 == 5 || group % 0100 / 010 == 6
                || group % 0100 / 010 == 1 && group % 2 == 1;
            default: return false;
        }
        if (group >= 050 && group <= 063) {
            return false;
        }
        if (high) {
            return group >= 044;
        }
        if (group == 1 || group >= 040 && group <= 047) {
            return way == 0;
        }
        boolean free = group == 0 && word != 0 || group == 2 && way >= 1 && way <= 3;
        return free || group >= 064 && group != 067;
    }

    private static void everyWord() {
        Check.sentence("2 ILLEGAL: an instruction that is none of these");
        int unlike = 0;
        int illegal = 0;
        for (int word = 0; word < 65536; word++) {
            if (word % 40 == 0) {
                x = new SchemeEleven();
            }
            x.poke(HERE, word);
            for (int k = 0; k <= 6; k++) {
                x.set(k, 0500);
            }
            x.set(7, HERE);
            int stop = x.go(1);
            boolean trap = word >= 0104000 && word <= 0104377;
            boolean good = (stop == 2) == isIllegal(word) && (stop == 1) == (word == 0) && (stop == 4) == trap;
            unlike += good ? 0 : 1;
            illegal += stop == 2 ? 1 : 0;
            if (!good && unlike < 5) {
                Check.due("the stop of " + octal(word), stop, isIllegal(word) ? 2 : 0);
            }
        }
        Check.due("words with another stop than is due", unlike, 0);
        // 63 of 0000xx, 8 + 64 of way 0, 24 of 0002xx, 11 groups of 64 of 00xxxx, those of 07, 10 and 17
        int seven = 3 * 512 + 4 * 64;
        int high = 4 * 64 + 12 * 64 + 4096;
        Check.due("words that are none of these", illegal, 63 + 8 + 64 + 24 + 11 * 64 + seven + high);
    }

    /** The last word of each group has way 7 of PC: the word behind X tells the place. */
    private static void lastOfGroups() {
        Check.sentence("0003d SWAB: both bytes change places");
        int[][] rows = {
            {0377, 0x3412}, {05077, 0}, {05177, 0xEDCB}, {05277, 0x1235}, {05377, 0x1233}, {05477, 0xEDCC}, {05577, 0x1235}, {05677, 0x1233},
            {05777, 0x1234}, {06077, 0x891A}, {06177, 0x2469}, {06277, 0x091A}, {06377, 0x2468}, {06777, 0}, {0105077, 0x1200}, {0106377, 0x1268},
        };
        for (int[] row : rows) {
            words(row[0], 0, 0500);
            x.poke(0500, 0x1234);
            x.set(8, C);
            goes(octal(row[0]), 0);
            word(octal(row[0]), 0500, row[1]);
            reg(octal(row[0]), 7, HERE + 4);
        }
        words(0177, 0, 0500);
        goes("JMP @X(PC)", 0);
        reg("JMP", 7, 0500);
        words(04777, 0, 0500);
        x.set(6, 0700);
        goes("JSR PC,@X(PC)", 0);
        reg("JSR", 7, 0500);
        word("JSR", 0676, HERE + 4);
        words(0400);
        goes("BR 0", 0);
        reg("BR 0", 7, HERE + 2);
        words(03777);
        x.set(8, Z);
        goes("BLE -1", 0);
        reg("BLE -1", 7, HERE);
    }

    private static void halts() {
        Check.sentence("1 000000 HALT");
        words(0, 05200);
        x.set(8, N + C);
        goes("HALT", 1);
        reg("its word is passed", 7, HERE + 2);
        reg("flags", 8, N + C);
        goes("what is behind it", 0);
        reg("INC R0", 0, 1);
    }

    private static void traps() {
        Check.sentence("4 104000 .. 104377 EMT");
        int[] all = {0103777, 0104000, 0104001, 0104377, 0104400};
        int[] stops = {0, 4, 4, 4, 2};
        for (int i = 0; i < all.length; i++) {
            words(all[i]);
            goes(octal(all[i]), stops[i]);
            reg("PC of " + octal(all[i]), 7, HERE + 2);
        }
    }

    /** Reads and writes of words and bytes at the last places that there are, by every way. */
    private static void lastPlaces() {
        Check.sentence("3 ODD: a word at an odd place, or a place that isn't in the memory");
        int[][] rows = {
            // instruction, register, what it stops with
            {05011, 8190, 0}, {05011, 8191, 3}, {05011, 8192, 3}, {05011, 1, 3}, {05011, 65534, 3}, {05011, 0, 0},
            {05711, 8190, 0}, {05711, 8191, 3}, {05711, 8192, 3}, {05711, 65535, 3},
            {0105011, 8190, 0}, {0105011, 8191, 0}, {0105011, 8192, 3}, {0105011, 65535, 3}, {0105011, 0, 0}, {0105011, 1, 0},
            {0105711, 8191, 0}, {0105711, 8192, 3}, {0105711, 65535, 3},
            {011100, 8190, 0}, {011100, 8191, 3}, {011100, 8192, 3}, {0111100, 8191, 0}, {0111100, 8192, 3},
            {010011, 8190, 0}, {010011, 8191, 3}, {010011, 8192, 3}, {0110011, 8191, 0}, {0110011, 8192, 3},
            {05021, 8190, 0}, {05021, 8192, 3}, {05041, 8192, 0}, {05041, 8193, 3}, {05041, 8194, 3}, {05041, 0, 3},
            {0105041, 8192, 0}, {0105041, 8193, 3}, {0105041, 0, 3}, {05031, 8190, 0}, {05031, 8191, 3}, {05031, 8192, 3},
            {0105031, 8190, 0}, {0105031, 8191, 3}, {05051, 8192, 0}, {05051, 8193, 3}, {05051, 0, 3},
            {060011, 8191, 3}, {0160011, 8192, 3}, {070011, 8191, 3}, {071011, 8192, 3}, {072011, 8191, 3}, {074011, 8192, 3},
            {0311, 8191, 3}, {06711, 8192, 3}, {06711, 8190, 0}, {020011, 8191, 3}, {030011, 8192, 3}, {040011, 8191, 3}, {050011, 8192, 3},
            {0120011, 8191, 0}, {0120011, 8192, 3}, {0130011, 8191, 0}, {0140011, 8192, 3}, {0150011, 8191, 0},
        };
        for (int[] row : rows) {
            words(row[0]);
            x.set(1, row[1]);
            goes(octal(row[0]) + " with R1 " + row[1], row[2]);
        }
        int[] ofWords = {
            05011, 05111, 05211, 05311, 05411, 05511, 05611, 05711, 06011, 06111, 06211, 06311, 011100, 010011, 021100, 020011, 031100, 030011,
            041100, 040011, 051100, 050011, 061100, 060011, 0161100, 0160011, 070011, 071011, 072011, 074011, 0311, 06711,
        };
        for (int code : ofWords) {
            for (int place : new int[] {1, 0501, 8191, 8192, 65534, 65535}) {
                words(code);
                x.set(1, place);
                goes(octal(code) + " with R1 " + place, 3);
                reg(octal(code), 1, place);
            }
        }
        for (int[] row : new int[][] {{8190, 0}, {8191, 3}, {8192, 3}, {65534, 3}, {65535, 3}}) {
            x = new SchemeEleven();
            x.poke(8190, 0240);
            x.set(7, row[0]);
            goes("an instruction at " + row[0], row[1]);
        }
    }

    private static void noPlaces() {
        Check.sentence("3 ODD: a word at an odd place, or a place that isn't in the memory");
        for (int[] row : new int[][] {{0500, 0}, {0501, 3}, {8190, 0}, {8192, 3}, {65535, 3}}) {
            words(05037, row[0]);
            goes("CLR @#" + row[0], row[1]);
            words(05071, 4);
            x.set(1, 0474);
            x.poke(0500, row[0]);
            goes("CLR @4(R1) to " + row[0], row[1]);
            reg("R1 stays", 1, 0474);
        }
        words(05071, 3);
        x.set(1, 0474);
        goes("CLR @3(R1), a word at an odd place", 3);
        reg("its words are passed", 7, HERE + 4);
        words(05061, 8192 - 0500);
        x.set(1, 0500);
        goes("CLR X(R1) behind the memory", 3);
        words(05061, 8190 - 0500);
        x.set(1, 0500);
        goes("CLR X(R1) at the last word", 0);
    }

    private static void passedWords() {
        Check.sentence("What the instruction did ahead of that stays (its words are passed, registers by operands changed");
        words(016161, 2, 4);
        x.set(1, 8188);
        goes("MOV 2(R1),4(R1) beyond", 3);
        reg("both X are passed", 7, HERE + 6);
        words(016161, 2, 4);
        x.set(1, 8191);
        goes("MOV 2(R1),4(R1), the first isn't there", 3);
        reg("the second X isn't passed", 7, HERE + 4);
        words(012122);
        regs(0, 0500, 8192);
        goes("MOV (R1)+,(R2)+ beyond", 3);
        reg("the first register", 1, 0502);
        reg("the second register", 2, 8194);
        words(014142);
        regs(0, 1, 0500);
        goes("MOV -(R1),-(R2), the first isn't there", 3);
        reg("the first register", 1, 65535);
        reg("the second one stays", 2, 0500);
        words(0112122);
        regs(0, 0500, 8192);
        goes("MOVB (R1)+,(R2)+ beyond", 3);
        reg("the first register", 1, 0501);
        reg("the second register", 2, 8193);
        words(0, 0);
        x.poke(8190, 012737);
        x.set(7, 8190);
        goes("MOV #,@# in the last word", 3);
        reg("way 2 of PC", 7, 8194);
    }

    private static void registersStay() {
        Check.sentence("of way 3 r stays if the word at it isn't there, PC if its own isn't");
        for (int place : new int[] {1, 8191, 8192, 65535}) {
            words(05031);
            x.set(1, place);
            goes("CLR @(R1)+", 3);
            reg("r stays", 1, place);
            words(05051);
            x.set(1, place + 2 & ONES);
            goes("CLR @-(R1)", 3);
            reg("of way 5 it is 2 less", 1, place);
            x = new SchemeEleven();
            x.set(7, place);
            goes("an instruction", 3);
            reg("PC stays", 7, place);
        }
        int[] codes = {05037, 05061, 05071, 05067, 05077, 0137, 0161};
        for (int code : codes) {
            x = new SchemeEleven();
            x.poke(8190, code);
            x.set(7, 8190);
            goes(octal(code) + " in the last word", 3);
            reg("PC stays at what isn't there", 7, 8192);
        }
        words(05031);
        x.set(1, 0500);
        x.poke(0500, 8192);
        goes("CLR @(R1)+, the place isn't there", 3);
        reg("r is 2 more", 1, 0502);
    }

    private static void flagsLast() {
        Check.sentence("FLAGS change last");
        int[] codes = {
            05011, 05111, 05211, 05311, 05411, 05511, 05611, 05711, 06011, 06111, 06211, 06311, 010011, 020011, 030011,
            040011, 050011, 060011, 0160011, 070011, 071011, 072011, 074011, 0311, 06711, 04011,
        };
        for (int code : codes) {
            for (int flags = 0; flags < 16; flags += 15) {
                words(code);
                x.set(0, 7);
                x.set(1, 8192);
                x.set(6, 1);
                x.set(8, flags);
                goes(octal(code) + " beyond", 3);
                reg(octal(code) + " beyond", 8, flags);
                reg(octal(code) + " beyond", 0, 7);
            }
        }
        for (int code : new int[] {0105011, 0105711, 0110011, 0106311, 0, 1, 0104000, 0100, 071100}) {
            words(code);
            x.set(1, 8192);
            x.set(8, 15);
            Check.due(octal(code) + " stops", x.go(1) > 0, true);
            reg(octal(code), 8, 15);
        }
    }
}
