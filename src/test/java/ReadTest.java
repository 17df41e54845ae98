/** THE TAPE, read: promises 14 and 15, the way back and each FAULT at its bit. */
public final class ReadTest {
    private static final int NONE = LzwForms.NONE;

    public static void main(String[] args) {
        wayBack();
        bitsEnd();
        firstIsNotClear();
        firstBehindClearIsNoSymbol();
        aboveCount();
        theVeryNumberItMakes();
        fullTableStays();
        tooManySymbols();
        endOfTheLastByte();
        clearsAnywhere();
        groupFills();
        clearAtWidthTen();
        leftInForm2();
        faultIsOfTheLatestRead();
        dataAndTapeStay();
        Due.end();
    }

    private static void reads(String name, LzwForms x, Bits bits, int... symbols) {
        bits.putOn(x);
        Due.is(name + ": read()", x.read(), symbols.length);
        Due.is(name + ": fault()", x.fault(), NONE);
        for (int i = 0; i < symbols.length; i++) {
            Due.is(name + ": at(" + i + ")", x.at(i), symbols[i]);
        }
        Due.is(name + ": behind the last", x.at(symbols.length), NONE);
    }

    private static void meets(String name, LzwForms x, Bits bits, int fault, int bitsRead) {
        bits.putOn(x);
        Due.is(name + ": read()", x.read(), -10 - fault);
        Due.is(name + ": fault()", x.fault(), bitsRead);
    }

    private static LzwForms of(int form, int k, int most) {
        return Make.with(form, k, most, 1);
    }

    private static void wayBack() {
        for (int form = 0; form <= 2; form++) {
            for (int k = form == 0 ? 2 : 8; k <= 8; k++) {
                for (int clears : new int[] {0, 1, 9, 100}) {
                    int[] symbols = new int[100];
                    for (int i = 0; i < symbols.length; i++) {
                        symbols[i] = i * i / 3 % (1 << k);
                    }
                    LzwForms x = Make.with(form, k, k + 2, clears, symbols);
                    x.write();
                    x.empty();
                    String name = "14: FORM " + form + ", K " + k + ", CLEARS " + clears;
                    Due.is(name + ": read()", x.read(), symbols.length);
                    for (int i = 0; i < symbols.length; i++) {
                        Due.is(name + ": at(" + i + ")", x.at(i), symbols[i]);
                    }
                    Due.is(name + ": write() once more", x.write(), x.told(5));
                }
            }
        }
    }

    private static void bitsEnd() {
        for (int form = 0; form <= 1; form++) {
            LzwForms x = of(form, 8, 12);
            meets("nothing", x, new Bits(form), 1, 0);
            meets("half a CODE", x, new Bits(form).zeros(8), 1, 8);
            // The zeros that fill the byte are the first bits of a CODE that does not end.
            meets("no END", x, new Bits(form).code(256, 9).code(5, 9), 1, 24);
            meets("no END behind a CLEAR", x, new Bits(form).code(256, 9), 1, 16);
        }
    }

    private static void firstIsNotClear() {
        for (int form = 0; form <= 1; form++) {
            LzwForms x = of(form, 8, 12);
            meets("a SYMBOL first", x, new Bits(form).code(5, 9).code(256, 9).code(257, 9), 2, 9);
            meets("END first", x, new Bits(form).code(257, 9), 2, 9);
            meets("FIRST first", x, new Bits(form).code(258, 9), 2, 9);
            meets("511 first", x, new Bits(form).code(511, 9), 2, 9);
        }
        LzwForms x = of(0, 2, 4);
        meets("K 2: a SYMBOL first", x, new Bits(0).code(0, 3).code(5, 3), 2, 3);
        reads("FORM 2 has none first", of(2, 8, 12), new Bits(2).code(5, 9), 5);
    }

    private static void firstBehindClearIsNoSymbol() {
        for (int form = 0; form <= 1; form++) {
            LzwForms x = of(form, 8, 12);
            meets("FIRST behind CLEAR", x, new Bits(form).code(256, 9).code(258, 9).code(257, 9), 3, 18);
            meets("511 behind CLEAR", x, new Bits(form).code(256, 9).code(511, 9), 3, 18);
            meets("behind the second CLEAR", x,
                new Bits(form).code(256, 9).code(1, 9).code(2, 9).code(256, 9).code(258, 9), 3, 45);
            reads("END behind CLEAR", x, new Bits(form).code(256, 9).code(257, 9));
            reads("the highest SYMBOL", x, new Bits(form).code(256, 9).code(255, 9).code(257, 9), 255);
        }
        LzwForms x = of(2, 8, 12);
        meets("FIRST at the beginning, FORM 2", x, new Bits(2).code(257, 9), 3, 9);
        meets("FIRST behind CLEAR, FORM 2", x, new Bits(2).code(256, 9).zeros(63).code(257, 9), 3, 81);
        reads("CLEAR at the beginning, FORM 2", x, new Bits(2).code(256, 9).zeros(63).code(9, 9), 9);
    }

    private static void aboveCount() {
        for (int form = 0; form <= 1; form++) {
            LzwForms x = of(form, 8, 12);
            meets("COUNT + 1", x, new Bits(form).code(256, 9).code(1, 9).code(259, 9), 4, 27);
            meets("COUNT + 1 later", x,
                new Bits(form).code(256, 9).code(1, 9).code(2, 9).code(260, 9), 4, 36);
            reads("COUNT later", x, new Bits(form).code(256, 9).code(1, 9).code(2, 9).code(259, 9)
                .code(257, 9), 1, 2, 2, 2);
        }
        meets("COUNT + 1, FORM 2", of(2, 8, 12), new Bits(2).code(1, 9).code(258, 9), 4, 18);
        // A CLEAR takes the STRINGS away.
        meets("behind a CLEAR", of(0, 8, 12), new Bits(0).code(256, 9).code(1, 9).code(2, 9).code(3, 9)
            .code(256, 9).code(4, 9).code(259, 9), 4, 63);
    }

    private static void theVeryNumberItMakes() {
        reads("FORM 0", of(0, 8, 12), new Bits(0).code(256, 9).code(7, 9).code(258, 9).code(259, 9)
            .code(257, 9), 7, 7, 7, 7, 7, 7);
        reads("FORM 1", of(1, 8, 12), new Bits(1).code(256, 9).code(7, 9).code(258, 9).code(257, 9), 7, 7, 7);
        reads("FORM 2", of(2, 8, 12), new Bits(2).code(7, 9).code(8, 9).code(257, 9).code(259, 9),
            7, 8, 7, 8, 7, 8, 7);
    }

    private static void fullTableStays() {
        // K 2, MOST 4: COUNT goes from 6 to 16, which is LAST; then STRINGS stay as they are.
        Bits bits = new Bits(0).code(4, 3).code(0, 3).code(1, 3).code(2, 3);
        int[] more = {3, 0, 2, 1, 3, 1, 0, 0, 1};
        for (int code : more) {
            bits.code(code, 4);
        }
        bits.code(15, 4).code(6, 4).code(15, 4).code(5, 4);
        // 6 is 0 1, and 15 the tenth STRING: 0 0.
        reads("FULL", of(0, 2, 4), bits, 0, 1, 2, 3, 0, 2, 1, 3, 1, 0, 0, 1, 0, 0, 0, 1, 0, 0);
    }

    private static void tooManySymbols() {
        for (int form = 0; form <= 2; form++) {
            int first = form == 2 ? 257 : 258;
            Bits bits = form == 2 ? new Bits(form) : new Bits(form).code(256, 9);
            // 1 + 2 + .. + 24 = 300.
            bits.code(9, 9);
            for (int i = 0; i < 23; i++) {
                bits.code(first + i, 9);
            }
            LzwForms x = of(form, 8, 12);
            int read = bits.length();
            meets("301, FORM " + form, x, bits.code(9, 9), 5, read + 9);
            bits = form == 2 ? new Bits(form) : new Bits(form).code(256, 9);
            bits.code(9, 9);
            for (int i = 0; i < 24; i++) {
                bits.code(first + i, 9);
            }
            meets("325, FORM " + form, x, bits, 5, read + 9);
            Due.is("DATA stays", x.told(0), 0);
        }
        just300();
    }

    private static void just300() {
        Bits bits = new Bits(0).code(256, 9).code(9, 9);
        for (int i = 0; i < 23; i++) {
            bits.code(258 + i, 9);
        }
        LzwForms x = of(0, 8, 12);
        bits.code(257, 9).putOn(x);
        Due.is("just 300: read()", x.read(), 300);
        Due.is("just 300: fault()", x.fault(), NONE);
        Due.is("just 300: at(299)", x.at(299), 9);
        Due.is("just 300: symbol(0)", x.symbol(0), LzwForms.ROOM);
    }

    private static void endOfTheLastByte() {
        LzwForms x = of(0, 8, 12);
        // 18 bits, so that the last byte has six that fill it.
        reads("zeros", x, new Bits(0).code(256, 9).code(257, 9));
        for (int place = 0; place < 6; place++) {
            Bits bits = new Bits(0).code(256, 9).code(257, 9).zeros(place).code(1, 1);
            meets("a 1 in the last byte", x, bits, 6, 18 + place + 1);
        }
        meets("a 1, and a byte more", x, new Bits(0).code(256, 9).code(257, 9).code(3, 6).code(255, 8), 6, 19);
        meets("a byte more, 0", x, new Bits(0).code(256, 9).code(257, 9).zeros(14), 6, 24);
        meets("a byte more, 255", x, new Bits(0).code(256, 9).code(257, 9).zeros(6).code(255, 8), 6, 24);
        x = of(1, 8, 12);
        meets("FORM 1: the lowest bit", x, new Bits(1).code(256, 9).code(257, 9).zeros(5).code(1, 1), 6, 24);
        meets("FORM 1: the highest bit that fills", x, new Bits(1).code(256, 9).code(257, 9).code(1, 1), 6, 19);
        meets("FORM 1: a byte more", x, new Bits(1).code(256, 9).code(257, 9).zeros(6).zeros(8), 6, 24);
        // No bit fills the last byte here: 72 bits.
        Bits bits = new Bits(1).code(256, 9);
        for (int i = 0; i < 6; i++) {
            bits.code(i, 9);
        }
        reads("no bit fills", x, bits.code(257, 9), 0, 1, 2, 3, 4, 5);
        meets("no bit fills, a byte more", of(1, 8, 12), bits.zeros(8), 6, 72);
    }

    private static void clearsAnywhere() {
        for (int form = 0; form <= 1; form++) {
            reads("several CLEARS, FORM " + form, of(form, 8, 12), new Bits(form).code(256, 9).code(256, 9)
                .code(256, 9).code(1, 9).code(258, 9).code(256, 9).code(2, 9).code(258, 9).code(256, 9)
                .code(257, 9), 1, 1, 1, 2, 2, 2);
        }
        reads("several CLEARS, FORM 2", of(2, 8, 12), new Bits(2).code(256, 9).zeros(63).code(256, 9).zeros(63)
            .code(1, 9).code(257, 9).code(256, 9).zeros(45).code(2, 9).code(257, 9), 1, 1, 1, 2, 2, 2);
        // The SETTING'S CLEARS has no say in reading.
        reads("CLEARS 0", Make.with(0, 8, 12, 0), new Bits(0).code(256, 9).code(1, 9).code(256, 9)
            .code(2, 9).code(257, 9), 1, 2);
    }

    private static void groupFills() {
        LzwForms x = of(2, 8, 12);
        for (int place : new int[] {0, 1, 30, 44}) {
            Bits bits = new Bits(2).code(1, 9).code(2, 9).code(256, 9).zeros(place).code(1, 1);
            bits.zeros(45 - place - 1).code(3, 9);
            meets("a 1 that fills a GROUP", x, bits, 6, 27 + place + 1);
        }
        Bits full = new Bits(2);
        for (int i = 0; i < 7; i++) {
            full.code(i, 9);
        }
        full.code(256, 9).code(9, 9);
        reads("CLEAR is the eighth", x, full, 0, 1, 2, 3, 4, 5, 6, 9);
    }

    private static void clearAtWidthTen() {
        // COUNT comes to 512 behind 256 CODES; the GROUP of the CLEAR is filled at WIDTH 10.
        Bits bits = new Bits(2);
        for (int i = 0; i < 256; i++) {
            bits.code(i, 9);
        }
        bits.code(77, 10).code(256, 10).zeros(60).code(88, 9).code(257, 9);
        LzwForms x = of(2, 8, 12);
        bits.putOn(x);
        Due.is("CLEAR at WIDTH 10: read()", x.read(), 260);
        Due.is("CLEAR at WIDTH 10: at(256)", x.at(256), 77);
        Due.is("CLEAR at WIDTH 10: at(257)", x.at(257), 88);
        Due.is("CLEAR at WIDTH 10: at(259)", x.at(259), 88);
        x.flip((2304 + 20 + 59) / 8, (2304 + 20 + 59) % 8);
        Due.is("the last bit that fills: read()", x.read(), -16);
        Due.is("the last bit that fills: fault()", x.fault(), 2304 + 20 + 60);
    }

    private static void leftInForm2() {
        LzwForms x = of(2, 8, 12);
        reads("nothing, FORM 2", x, new Bits(2));
        reads("a byte of 0, FORM 2", x, new Bits(2).zeros(8));
        meets("a byte with a 1, FORM 2", x, new Bits(2).zeros(3).code(1, 1).zeros(4), 6, 4);
        x = of(2, 8, 12);
        reads("two bytes, FORM 2", x, new Bits(2).code(5, 9).zeros(7), 5);
        meets("a 1 is left", x, new Bits(2).code(5, 9).zeros(6).code(1, 1), 6, 16);
        reads("a CODE 0 is read", x, new Bits(2).code(5, 9).zeros(15), 5, 0);
        Bits exact = new Bits(2);
        for (int i = 1; i <= 8; i++) {
            exact.code(i, 9);
        }
        reads("the last CODE takes the last bit", x, exact, 1, 2, 3, 4, 5, 6, 7, 8);
        reads("the fill and a CODE take all", x, new Bits(2).code(256, 9).zeros(63).code(256, 9).zeros(63)
            .code(1, 9).code(2, 9).code(3, 9).code(4, 9).code(5, 9).code(6, 9).code(7, 9).code(8, 9),
            1, 2, 3, 4, 5, 6, 7, 8);
        // Behind CLEAR 63 bits fill the GROUP: as long as no CODE fits behind those, it ends.
        reads("CLEAR, and 63 of 72 bits", x, new Bits(2).code(256, 9).zeros(63));
        reads("CLEAR, and a byte", x, new Bits(2).code(256, 9).zeros(15));
        reads("CLEAR, and 71 bits", x, new Bits(2).code(256, 9).zeros(71));
        reads("CLEAR, and 72 bits", x, new Bits(2).code(1, 9).code(256, 9).zeros(54).code(0, 9).zeros(7), 1, 0);
        meets("CLEAR, a 1 behind 50", x, new Bits(2).code(256, 9).zeros(50).code(1, 1), 6, 60);
        meets("CLEAR, a 1 behind 65", x, new Bits(2).code(256, 9).zeros(65).code(1, 1).zeros(5), 6, 75);
    }

    private static void faultIsOfTheLatestRead() {
        LzwForms x = of(0, 8, 12);
        Due.is("15: no read()", x.fault(), NONE);
        x.read();
        Due.is("15: of nothing", x.fault(), 0);
        x.write();
        x.symbol(1);
        x.empty();
        x.setting(0, 2, 12, 1);
        Due.is("15: other calls leave it", x.fault(), 0);
        x.setting(0, 8, 12, 1);
        x.read();
        Due.is("15: behind a good read()", x.fault(), NONE);
        x.cut(1);
        x.read();
        Due.is("15: behind a bad one", x.fault(), 8);
        Due.is("15: twice", x.fault(), 8);
    }

    private static void dataAndTapeStay() {
        LzwForms x = Make.with(0, 8, 12, 1, 4, 5, 6);
        x.write();
        int bytes = x.told(5);
        x.flip(0, 0);
        x.empty();
        x.symbol(200);
        Due.is("14: a FAULT", x.read(), -12);
        Due.is("14: DATA stays", x.told(0), 1);
        Due.is("14: its SYMBOL stays", x.at(0), 200);
        Due.is("14: PACKED as before", x.told(6), 3);
        Due.is("14: THE TAPE stays", x.told(5), bytes);
        x.flip(0, 0);
        Due.is("14: read()", x.read(), 3);
        Due.is("14: THE TAPE stays, too", x.told(5), bytes);
        Due.is("14: at(2)", x.at(2), 6);
        // THE TAPE is read by the SETTING that is now.
        x.empty();
        x.setting(1, 8, 12, 1);
        Due.is("14: by FORM 1", x.read(), -12);
    }
}
