/** DATA, PACKED: promises 6 to 9, with examples that were published and the edges by hand. */
public final class PackTest {
    private static final int NONE = LzwForms.NONE;
    private static final int OUTSIDE = LzwForms.OUTSIDE;
    private static final int ROOM = LzwForms.ROOM;

    public static void main(String[] args) {
        publishedForm0();
        publishedForm1();
        publishedCodesOfForm1();
        gzipReadsForm2();
        emptyData();
        widthsRise();
        widthStaysAtMost();
        clearsWhenFull();
        neverClears();
        clearsBehindSoManyCodes();
        groupsAreFilled();
        fullGroupIsNotFilled();
        strings();
        stringsBehindAClear();
        codeBounds();
        packedFollowsDataAndSetting();
        writeHasRoom();
        Due.end();
    }

    private static void codesAre(String name, LzwForms x, int... codes) {
        Due.is(name + ": told(6)", x.told(6), codes.length);
        for (int i = 0; i < codes.length; i++) {
            Due.is(name + ": code(" + i + ", 0)", x.code(i, 0), codes[i]);
        }
        Due.is(name + ": the code behind the last", x.code(codes.length, 0), NONE);
    }

    private static void tapeIs(String name, LzwForms x, int... bytes) {
        Due.is(name + ": write()", x.write(), bytes.length);
        Due.is(name + ": told(5)", x.told(5), bytes.length);
        for (int i = 0; i < bytes.length; i++) {
            Due.is(name + ": octet(" + i + ")", x.octet(i), bytes[i]);
        }
        Due.is(name + ": the byte behind the last", x.octet(bytes.length), NONE);
    }

    // The picture of ten by ten points that a well known guide to GIF takes apart.
    private static void publishedForm0() {
        String[] rows = {"1111122222", "1111122222", "1111122222", "1110000222", "1110000222",
            "2220000111", "2220000111", "2222211111", "2222211111", "2222211111"};
        LzwForms x = Make.with(0, 2, 12, 1);
        for (String row : rows) {
            for (char c : row.toCharArray()) {
                x.symbol(c - '0');
            }
        }
        tapeIs("GIF", x, 0x8C, 0x2D, 0x99, 0x87, 0x2A, 0x1C, 0xDC, 0x33, 0xA0, 0x02, 0x75, 0xEC,
            0x95, 0xFA, 0xA8, 0xDE, 0x60, 0x8C, 0x04, 0x91, 0x4C, 0x01);
    }

    // The example of LZWDecode in the reference of PDF.
    private static void publishedForm1() {
        LzwForms x = Make.with(1, 8, 12, 1, 45, 45, 45, 45, 45, 65, 45, 45, 45, 66);
        codesAre("PDF", x, 256, 45, 258, 258, 65, 259, 66, 257);
        tapeIs("PDF", x, 0x80, 0x0B, 0x60, 0x50, 0x22, 0x0C, 0x0C, 0x85, 0x01);
    }

    // The example in section 13 of TIFF 6.0.
    private static void publishedCodesOfForm1() {
        LzwForms x = Make.with(1, 8, 12, 1, 7, 7, 7, 8, 8, 7, 7, 6, 6);
        codesAre("TIFF", x, 256, 7, 258, 8, 8, 258, 6, 6, 257);
    }

    // gzip -d gives "aaaaaaaaaa" from 1F 9D 8C and these bytes.
    private static void gzipReadsForm2() {
        LzwForms x = Make.with(2, 8, 12, 1, 97, 97, 97, 97, 97, 97, 97, 97, 97, 97);
        codesAre("compress", x, 97, 257, 258, 259);
        tapeIs("compress", x, 0x61, 0x02, 0x0A, 0x1C, 0x08);
    }

    private static void emptyData() {
        LzwForms x = Make.with(1, 8, 10, 0);
        codesAre("empty, FORM 1", x, 256, 257);
        tapeIs("empty, FORM 1", x, 0x80, 0x40, 0x40);
        x = Make.with(0, 2, 4, 0);
        codesAre("empty, K 2", x, 4, 5);
        Due.is("empty, K 2: told(7)", x.told(7), 6);
        tapeIs("empty, K 2", x, 0x2C);
        x = Make.with(2, 8, 12, 1);
        codesAre("empty, FORM 2", x);
        tapeIs("empty, FORM 2", x);
    }

    private static void widthsRise() {
        // COUNT is FIRST behind the first CODE of a STRING and one more behind each other.
        int[] lastNarrow = {255, 254, 255};
        for (int form = 0; form <= 2; form++) {
            LzwForms x = Make.with(form, 8, 12, 0, Make.counted(270, 256));
            int i = lastNarrow[form];
            Due.is("FORM " + form + ": WIDTH 9", x.code(i, 1), 9);
            Due.is("FORM " + form + ": WIDTH 10", x.code(i + 1, 1), 10);
            Due.is("FORM " + form + ": begins", x.code(i + 1, 2), 9 * (i + 1));
            Due.is("FORM " + form + ": the next begins", x.code(i + 2, 2), 9 * (i + 1) + 10);
        }
    }

    private static void widthStaysAtMost() {
        LzwForms x = Make.with(0, 2, 4, 0, Make.counted(300, 3));
        int codes = x.told(6);
        int bits = 0;
        for (int i = 0; i < codes; i++) {
            int width = x.code(i, 1);
            // FIRST is 6: COUNT comes to 8 behind the third STRING, which is CODE 3.
            Due.is("MOST 4: WIDTH of " + i, width, i <= 3 ? 3 : 4);
            bits += width;
        }
        Due.is("MOST 4: told(7)", x.told(7), bits);
    }

    private static void clearsWhenFull() {
        // Ten STRINGS (6 to 15) fill this TABLE; 0 1 2 3 0 2 1 3 1 0 0 brings ten new pairs.
        int[] pairs = {0, 1, 2, 3, 0, 2, 1, 3, 1, 0, 0};
        LzwForms x = Make.with(0, 2, 4, 1, pairs);
        codesAre("FULL", x, 4, 0, 1, 2, 3, 0, 2, 1, 3, 1, 0, 4, 0, 5);
        Due.is("FULL: told(9)", x.told(9), 2);
        Due.is("FULL: told(8)", x.told(8), 0);
        Due.is("FULL: WIDTH of CLEAR", x.code(11, 1), 4);
        Due.is("FULL: WIDTH behind it", x.code(12, 1), 3);
        // One SYMBOL fewer: DATA does not go on, so the TABLE does not get FULL.
        int[] fewer = new int[10];
        System.arraycopy(pairs, 0, fewer, 0, 10);
        x = Make.with(0, 2, 4, 1, fewer);
        codesAre("not FULL", x, 4, 0, 1, 2, 3, 0, 2, 1, 3, 1, 0, 5);
        Due.is("not FULL: told(8)", x.told(8), 9);
        Due.is("not FULL: told(9)", x.told(9), 1);
    }

    private static void neverClears() {
        int[] pairs = {0, 1, 2, 3, 0, 2, 1, 3, 1, 0, 0, 1, 2, 0, 1, 2};
        LzwForms x = Make.with(0, 2, 4, 0, pairs);
        // 0 1 is 6 and 1 2 is 7; 0 1 2 gets no NUMBER as the TABLE stays FULL.
        codesAre("never", x, 4, 0, 1, 2, 3, 0, 2, 1, 3, 1, 0, 6, 2, 6, 2, 5);
        Due.is("never: told(8)", x.told(8), 10);
        Due.is("never: told(9)", x.told(9), 1);
        Due.is("never: string(16, 2)", x.string(16, 2), NONE);
        Due.is("never: string(15, 2)", x.string(15, 2), 2);
    }

    private static void clearsBehindSoManyCodes() {
        LzwForms x = Make.with(0, 8, 12, 2, 1, 2, 3, 4, 5);
        codesAre("CLEARS 2", x, 256, 1, 2, 256, 3, 4, 256, 5, 257);
        Due.is("CLEARS 2: told(9)", x.told(9), 3);
        x = Make.with(0, 8, 12, 2, 1, 2, 3, 4);
        codesAre("CLEARS 2, DATA ends", x, 256, 1, 2, 256, 3, 4, 257);
        Due.is("CLEARS 2: told(8)", x.told(8), 1);
        x = Make.with(0, 8, 12, 100, Make.counted(201, 256));
        Due.is("CLEARS 100: told(9)", x.told(9), 3);
        Due.is("CLEARS 100: code(101, 0)", x.code(101, 0), 256);
        Due.is("CLEARS 100: code(202, 0)", x.code(202, 0), 256);
        // The FULL TABLE alone does not bring a CLEAR then.
        x = Make.with(0, 2, 4, 20, 0, 1, 2, 3, 0, 2, 1, 3, 1, 0, 0, 0);
        Due.is("CLEARS 20: told(9)", x.told(9), 1);
        Due.is("CLEARS 20: told(8)", x.told(8), 10);
    }

    private static void groupsAreFilled() {
        LzwForms x = Make.with(2, 8, 12, 2, 1, 2, 3, 4, 5);
        codesAre("GROUPS", x, 1, 2, 256, 3, 4, 256, 5);
        int[] begins = {0, 9, 18, 72, 81, 90, 144};
        for (int i = 0; i < begins.length; i++) {
            Due.is("GROUPS: code(" + i + ", 2)", x.code(i, 2), begins[i]);
            Due.is("GROUPS: code(" + i + ", 1)", x.code(i, 1), 9);
        }
        Due.is("GROUPS: told(7)", x.told(7), 153);
        Due.is("GROUPS: told(9)", x.told(9), 2);
        Due.is("GROUPS: write()", x.write(), 20);
        Due.is("GROUPS: octet(9)", x.octet(9), 3);
        Due.is("GROUPS: octet(18)", x.octet(18), 5);
    }

    private static void fullGroupIsNotFilled() {
        LzwForms x = Make.with(2, 8, 12, 7, Make.counted(15, 256));
        Due.is("CLEAR is the eighth: code(7, 0)", x.code(7, 0), 256);
        Due.is("CLEAR is the eighth: code(8, 2)", x.code(8, 2), 72);
        Due.is("CLEAR is the eighth: code(16, 2)", x.code(16, 2), 144);
        Due.is("CLEAR is the eighth: told(7)", x.told(7), 153);
        x = Make.with(2, 8, 12, 8, Make.counted(9, 256));
        Due.is("CLEAR is the ninth: code(8, 0)", x.code(8, 0), 256);
        Due.is("CLEAR is the ninth: code(8, 2)", x.code(8, 2), 72);
        Due.is("CLEAR is the ninth: code(9, 2)", x.code(9, 2), 144);
    }

    private static void strings() {
        LzwForms x = Make.with(0, 3, 12, 1, 5, 6, 5, 6, 7);
        // CODES: 8, 5, 6, 10, 7, 9; STRINGS: 10 is 5 6, 11 is 6 5, 12 is 5 6 7.
        int[][] due = {{10, 5, 6, 2}, {11, 6, 5, 2}, {12, 10, 7, 3}, {0, NONE, 0, 1}, {7, NONE, 7, 1},
            {8, NONE, NONE, NONE}, {9, NONE, NONE, NONE}, {13, NONE, NONE, NONE}, {-1, NONE, NONE, NONE},
            {Integer.MIN_VALUE, NONE, NONE, NONE}, {Integer.MAX_VALUE, NONE, NONE, NONE}};
        for (int[] one : due) {
            for (int what = 0; what <= 2; what++) {
                Due.is("8: string(" + one[0] + ", " + what + ")", x.string(one[0], what), one[what + 1]);
            }
            for (int what : new int[] {Integer.MIN_VALUE, -1, 3, Integer.MAX_VALUE}) {
                Due.is("8: string(" + one[0] + ", " + what + ")", x.string(one[0], what), OUTSIDE);
            }
        }
        x = Make.with(2, 8, 12, 1, 5, 6);
        Due.is("8: CLEAR in FORM 2", x.string(256, 1), NONE);
        Due.is("8: FIRST in FORM 2", x.string(257, 1), 6);
        Due.is("8: its head", x.string(257, 0), 5);
        Due.is("8: no more", x.string(258, 2), NONE);
    }

    private static void stringsBehindAClear() {
        LzwForms x = Make.with(0, 8, 12, 3, 1, 2, 3, 4, 5);
        // The TABLE at the end has what came behind the latest CLEAR alone.
        Due.is("8: told(8)", x.told(8), 1);
        Due.is("8: string(258, 0)", x.string(258, 0), 4);
        Due.is("8: string(258, 1)", x.string(258, 1), 5);
        Due.is("8: string(259, 2)", x.string(259, 2), NONE);
    }

    private static void codeBounds() {
        LzwForms x = Make.with(0, 8, 12, 1, 9);
        for (int what : new int[] {Integer.MIN_VALUE, -1, 3, Integer.MAX_VALUE}) {
            Due.is("7: code(0, " + what + ")", x.code(0, what), OUTSIDE);
            Due.is("7: code(99, " + what + ")", x.code(99, what), OUTSIDE);
        }
        for (int i : new int[] {Integer.MIN_VALUE, -1, 3, Integer.MAX_VALUE}) {
            for (int what = 0; what <= 2; what++) {
                Due.is("7: code(" + i + ", " + what + ")", x.code(i, what), NONE);
            }
        }
        Due.is("7: code(2, 0)", x.code(2, 0), 257);
        Due.is("7: code(2, 1)", x.code(2, 1), 9);
        Due.is("7: code(2, 2)", x.code(2, 2), 18);
    }

    private static void packedFollowsDataAndSetting() {
        LzwForms x = Make.with(0, 8, 12, 1, 3, 3, 3, 3);
        Due.is("told(6) before", x.told(6), 5);
        Due.is("string(258, 2) before", x.string(258, 2), 2);
        x.symbol(200);
        Due.is("told(6) with one more", x.told(6), 6);
        x.empty();
        Due.is("string(258, 2) of empty DATA", x.string(258, 2), NONE);
        x.setting(0, 2, 4, 1);
        codesAre("another SETTING", x, 4, 5);
        x.symbol(3);
        x.symbol(3);
        x.symbol(3);
        codesAre("another SETTING", x, 4, 3, 6, 5);
        x.write();
        x.empty();
        Due.is("told(6) of empty DATA", x.told(6), 2);
        Due.is("read()", x.read(), 3);
        codesAre("DATA that was read", x, 4, 3, 6, 5);
    }

    private static void writeHasRoom() {
        LzwForms x = Make.with(2, 8, 12, 2, Make.counted(88, 256));
        // A GROUP of nine bytes for each two SYMBOLS, the last one of 18 bits: 43 * 9 + 3.
        x.more(7);
        Due.is("9: write()", x.write(), 390);
        x.symbol(100);
        Due.is("9: write() with a CODE in the next GROUP", x.write(), 398);
        x.symbol(101);
        x.symbol(102);
        Due.is("9: told(7)", x.told(7), 45 * 72 + 9);
        Due.is("9: write() of more than 400", x.write(), ROOM);
        Due.is("9: THE TAPE stays", x.told(5), 398);
        Due.is("9: its last byte stays", x.octet(396), 100);
        Due.is("9: DATA stays", x.told(0), 91);
        // Two SYMBOLS and a CLEAR, 27 bits, again and again: 400 bytes are met, and passed.
        x = Make.with(0, 8, 12, 2, Make.counted(235, 256));
        Due.is("9: told(6)", x.told(6), 235 + 117 + 2);
        Due.is("9: write() of 3186 bits", x.write(), 399);
        x.symbol(5);
        Due.is("9: write() of 3195 bits", x.write(), 400);
        x.symbol(6);
        Due.is("9: write() of 3213 bits", x.write(), ROOM);
        Due.is("9: told(5)", x.told(5), 400);
    }
}
