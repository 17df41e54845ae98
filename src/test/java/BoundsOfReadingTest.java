/**
 * The boundary cases of reading THE TAPE: promises 14 and 15, with what "Terms" says of TO READ and
 * its FAULTS. Above each test stands the sentence that it holds.
 */
public final class BoundsOfReadingTest {
    private static final int NONE = LzwForms.NONE;
    private static final int CLEAR = 256;
    private static final int END = 257;

    public static void main(String[] args) {
        emptyTape();
        severalClears();
        tapeFullOfClears();
        clearsWithinForm2();
        widthsWhileReading();
        wideCodesInForm0();
        theVeryNumber();
        countComesToLast();
        endEndsIt();
        endsAheadOfACode();
        endsBehindAGroup();
        bitsEndAtEachByte();
        bitsEndWithinACode();
        eachFirstCode();
        eachFirstCodeInForm2();
        eachCodeBehindClear();
        eachCodeBehindClearInForm2();
        eachCodeAgainstCount();
        countAtTheWidths();
        countBehindClear();
        just300();
        the301st();
        the301stWithinAString();
        moreBehind300();
        eachBitThatFillsTheLastByte();
        eachBitThatFillsAGroup();
        eachBitThatIsLeft();
        aByteMore();
        theFirstFaultThatIsMet();
        tapesOf400Bytes();
        dataBecomes();
        dataStaysWithAFault();
        tapeStays();
        readByTheSettingThatIsNow();
        noFault();
        faultOfTheLatest();
        faultStays();
        Due.end();
    }

    private static int first(int form) {
        return form == 2 ? 257 : 258;
    }

    /** The bits of CODES of nine bits; in FORMS 0, 1 CLEAR stands ahead of them. */
    private static Bits nine(int form, int... codes) {
        Bits bits = new Bits(form);
        if (form != 2) {
            bits.code(CLEAR, 9);
        }
        for (int code : codes) {
            bits.code(code, 9);
        }
        return bits;
    }

    private static Bits ended(int form, Bits bits, int width) {
        return form == 2 ? bits : bits.code(END, width);
    }

    private static void reads(String name, LzwForms x, Bits bits, int... symbols) {
        bits.putOn(x);
        Due.is("14: " + name + ": read()", x.read(), symbols.length);
        Due.is("15: " + name + ": fault()", x.fault(), NONE);
        for (int i = 0; i < symbols.length; i++) {
            Due.is("14: " + name + ": at(" + i + ")", x.at(i), symbols[i]);
        }
        Due.is("14: " + name + ": behind the last", x.at(symbols.length), NONE);
    }

    private static void readsSoMany(String name, LzwForms x, Bits bits, int count) {
        bits.putOn(x);
        Due.is("14: " + name + ": read()", x.read(), count);
        Due.is("15: " + name + ": fault()", x.fault(), NONE);
        Due.is("14: " + name + ": told(0)", x.told(0), count);
    }

    private static void meets(String name, LzwForms x, Bits bits, int fault, int bitsRead) {
        bits.putOn(x);
        Due.is("14: " + name + ": read()", x.read(), -10 - fault);
        Due.is("15: " + name + ": fault()", x.fault(), bitsRead);
    }

    private static LzwForms of(int form) {
        return Make.with(form, 8, 12, 1);
    }

    // FAULT "1 the bits end (FORMS 0, 1: when a bit more is wanted)"; in FORM 2 "it ends ahead of a
    // CODE when fewer bits are left"
    private static void emptyTape() {
        meets("nothing, FORM 0", of(0), new Bits(0), 1, 0);
        meets("nothing, FORM 1", of(1), new Bits(1), 1, 0);
        meets("nothing, K 2", Make.with(0, 2, 4, 1), new Bits(0), 1, 0);
        reads("nothing, FORM 2", of(2), new Bits(2));
    }

    // "CLEARS wherever they stand (also several together; in FORM 2, too)"
    private static void severalClears() {
        for (int form = 0; form <= 1; form++) {
            reads("two, and END", of(form), nine(form, CLEAR, END));
            reads("two, a SYMBOL", of(form), nine(form, CLEAR, 7, END), 7);
            reads("three, a SYMBOL", of(form), nine(form, CLEAR, CLEAR, 7, END), 7);
            reads("at the end", of(form), nine(form, 7, CLEAR, END), 7);
            reads("several at the end", of(form), nine(form, 7, CLEAR, CLEAR, END), 7);
            reads("behind each SYMBOL", of(form), nine(form, 7, CLEAR, 8, CLEAR, 9, CLEAR, END), 7, 8, 9);
        }
        int gap = 7 * 9;
        reads("FORM 2: alone", of(2), nine(2, CLEAR));
        reads("FORM 2: two", of(2), nine(2, CLEAR).zeros(gap).code(CLEAR, 9));
        reads("FORM 2: two, a SYMBOL", of(2), nine(2, CLEAR).zeros(gap).code(CLEAR, 9).zeros(gap).code(7, 9), 7);
        reads("FORM 2: at the end", of(2), nine(2, 7, CLEAR), 7);
        reads("FORM 2: several at the end", of(2), nine(2, 7, CLEAR).zeros(gap - 9).code(CLEAR, 9), 7);
    }

    private static void tapeFullOfClears() {
        // 1066 CLEARS of three bits; the two bits behind them are no CODE.
        LzwForms x = Make.with(0, 2, 4, 1);
        Bits bits = new Bits(0);
        for (int i = 0; i < 1066; i++) {
            bits.code(4, 3);
        }
        meets("CLEARS alone", x, bits, 1, 3200);
        bits = new Bits(0);
        for (int i = 0; i < 1065; i++) {
            bits.code(4, 3);
        }
        x = Make.with(0, 2, 4, 1);
        reads("CLEARS, and END", x, bits.code(5, 3));
        // 44 GROUPS of nine bytes, each with a CLEAR and what fills it; then a CLEAR, and 23 bits.
        bits = new Bits(2);
        for (int i = 0; i < 44; i++) {
            bits.code(CLEAR, 9).zeros(63);
        }
        reads("CLEARS alone, FORM 2", of(2), bits.code(CLEAR, 9).zeros(23));
    }

    // In FORM 2 each place of a GROUP can be a CLEAR'S
    private static void clearsWithinForm2() {
        for (int ahead = 0; ahead <= 16; ahead++) {
            Bits bits = new Bits(2);
            int[] due = new int[ahead + 2];
            for (int i = 0; i < ahead; i++) {
                due[i] = 100 + i;
                bits.code(due[i], 9);
            }
            bits.code(CLEAR, 9).zeros((15 - ahead % 8) % 8 * 9).code(5, 9).code(6, 9);
            due[ahead] = 5;
            due[ahead + 1] = 6;
            reads("FORM 2: CLEAR behind " + ahead, of(2), bits, due);
        }
    }

    private static Bits single(int form, int count, int narrow) {
        Bits bits = nine(form);
        for (int i = 0; i < count; i++) {
            bits.code(i % 256, i < narrow ? 9 : 10);
        }
        return bits;
    }

    // "COUNT and WIDTH as above"
    private static void widthsWhileReading() {
        int[] narrow = {255, 254, 256};
        for (int form = 0; form <= 2; form++) {
            int takes = narrow[form];
            for (int count = takes - 1; count <= takes + 2; count++) {
                Bits bits = ended(form, single(form, count, takes), count < takes ? 9 : 10);
                readsSoMany("FORM " + form + ", " + count + " CODES", of(form), bits, count);
            }
        }
        // MOST at most: K 2, MOST 4 has WIDTH 4 from the fourth CODE of a STRING on.
        Bits bits = new Bits(0).code(4, 3);
        for (int i = 0; i < 300; i++) {
            bits.code(i % 4, i < 3 ? 3 : 4);
        }
        readsSoMany("K 2, MOST 4", Make.with(0, 2, 4, 0), bits.code(5, 4), 300);
        // K 2, MOST 12: WIDTHS 5 to 9 come behind 11, 27, 59, 123 and 251 CODES.
        bits = new Bits(0).code(4, 3);
        int[] rises = {3, 11, 27, 59, 123, 251};
        for (int i = 0; i < 300; i++) {
            bits.code(i % 4, widthBehind(rises, i));
        }
        readsSoMany("K 2, MOST 12", Make.with(0, 2, 12, 0), bits.code(5, 9), 300);
    }

    private static int widthBehind(int[] rises, int codes) {
        int width = 3;
        for (int takes : rises) {
            width += codes >= takes ? 1 : 0;
        }
        return width;
    }

    // Ten bits in three bytes: one CLEAR more ahead, so that they begin at a byte's last bit
    private static void wideCodesInForm0() {
        for (int clears = 0; clears < 8; clears++) {
            Bits bits = new Bits(0);
            for (int i = 0; i <= clears; i++) {
                bits.code(CLEAR, 9);
            }
            for (int i = 0; i < 258; i++) {
                bits.code(i % 256, i < 255 ? 9 : 10);
            }
            LzwForms x = of(0);
            readsSoMany("WIDTH 10 behind " + clears + " CLEARS", x, bits.code(513, 10).code(END, 10), 260);
            // 258 is 0 1, and 513 the last pair that 0 to 255, and 0 again, make.
            Due.is("at(258)", x.at(258), 255);
            Due.is("at(259)", x.at(259), 0);
        }
    }

    // "(so that a CODE may be the very NUMBER that it makes)"
    private static void theVeryNumber() {
        for (int form = 0; form <= 2; form++) {
            int first = first(form);
            reads("at once", of(form), ended(form, nine(form, 7, first), 9), 7, 7, 7);
            reads("later", of(form), ended(form, nine(form, 7, 8, first + 1), 9), 7, 8, 8, 8);
            reads("of a STRING", of(form), ended(form, nine(form, 7, 8, first, first + 2), 9), 7, 8, 7, 8, 7, 8, 7);
            reads("the one before it", of(form), ended(form, nine(form, 7, 8, first), 9), 7, 8, 7, 8);
        }
    }

    // "if COUNT is not LAST, COUNT is the NUMBER of the STRING before .."
    private static void countComesToLast() {
        // K 2, MOST 4: COUNT is 15 behind ten CODES of STRINGS, so the eleventh may make 15.
        Bits bits = fullButOne();
        LzwForms x = Make.with(0, 2, 4, 0);
        reads("makes 15", x, bits.code(15, 4).code(5, 4), 0, 0, 0, 0, 0, 0, 0, 0, 0, 1, 1, 1);
        // Then COUNT is LAST, and 15 stays what it is, whatever comes.
        bits = fullButOne().code(2, 4).code(3, 4).code(15, 4).code(2, 4).code(15, 4).code(5, 4);
        reads("stays", Make.with(0, 2, 4, 0), bits, 0, 0, 0, 0, 0, 0, 0, 0, 0, 1, 2, 3, 1, 2, 2, 1, 2);
        // A CLEAR begins it anew: WIDTH 3, and COUNT 6.
        bits = fullButOne().code(2, 4).code(3, 4).code(4, 4).code(1, 3).code(6, 3).code(5, 3);
        reads("begun anew", Make.with(0, 2, 4, 0), bits, 0, 0, 0, 0, 0, 0, 0, 0, 0, 1, 2, 3, 1, 1, 1);
        bits = fullButOne().code(2, 4).code(3, 4).code(4, 4).code(1, 3).code(7, 3).code(5, 3);
        meets("begun anew", Make.with(0, 2, 4, 0), bits, 4, 3 * 4 + 7 * 4 + 3 * 4 + 6);
    }

    /** Ten CODES of STRINGS with K 2, MOST 4: nine times 0, and 1. */
    private static Bits fullButOne() {
        Bits bits = new Bits(0).code(4, 3).code(0, 3).code(0, 3).code(0, 3);
        for (int i = 0; i < 6; i++) {
            bits.code(0, 4);
        }
        return bits.code(1, 4);
    }

    // "In FORMS 0, 1 END ends it"
    private static void endEndsIt() {
        for (int form = 0; form <= 1; form++) {
            reads("behind CLEAR", of(form), nine(form, END));
            reads("behind a SYMBOL", of(form), nine(form, 0, END), 0);
            meets("what stands behind END is not read", of(form), nine(form, 0, END).zeros(5).code(7, 9), 6, 32);
        }
        for (int k = 2; k <= 8; k++) {
            LzwForms x = Make.with(0, k, 12, 1);
            reads("K " + k, x, new Bits(0).code(1 << k, k + 1).code((1 << k) + 1, k + 1));
        }
        // 257 is no END in FORM 2, but FIRST.
        reads("FORM 2", of(2), nine(2, 7, 257, 8), 7, 7, 7, 8);
    }

    // "in FORM 2 it ends ahead of a CODE when fewer bits are left than what fills the GROUP and
    // WIDTH together"
    private static void endsAheadOfACode() {
        for (int count = 0; count <= 17; count++) {
            int[] due = new int[count];
            for (int i = 0; i < count; i++) {
                due[i] = 255 - i;
            }
            Bits bits = nine(2, due);
            int left = 8 * bits.bytes() - bits.length();
            Due.holds("fewer than nine are left", left < 9);
            reads(count + " CODES, " + left + " bits left", of(2), bits, due);
        }
        // Eight bits are left behind eight CODES and a byte; with two bytes there are nine.
        reads("eight bits left", of(2), nine(2, 1, 2, 3, 4, 5, 6, 7, 8).zeros(8), 1, 2, 3, 4, 5, 6, 7, 8);
        reads("nine and more", of(2), nine(2, 1, 2, 3, 4, 5, 6, 7, 8).zeros(16), 1, 2, 3, 4, 5, 6, 7, 8, 0);
        // WIDTH is 10 behind 256 CODES: eight bits are left, and two bytes are a CODE.
        readsSoMany("WIDTH 10, eight left", of(2), single(2, 256, 256).zeros(8), 256);
        readsSoMany("WIDTH 10, a CODE", of(2), single(2, 256, 256).zeros(16), 257);
    }

    private static void endsBehindAGroup() {
        // A CLEAR is the n-th of its GROUP: what fills it, and nine bits, are wanted.
        for (int place = 1; place <= 8; place++) {
            int fill = (8 - place) * 9;
            int ahead = place * 9;
            int[] symbols = new int[place - 1];
            for (int i = 0; i < symbols.length; i++) {
                symbols[i] = i + 1;
            }
            for (int bytes = (ahead + 7) / 8; 8 * bytes < ahead + fill + 18; bytes++) {
                int left = 8 * bytes - ahead;
                int more = left < fill + 9 ? 0 : 1 + (left - fill - 9) / 9;
                Bits bits = nine(2, symbols).code(CLEAR, 9).zeros(left);
                readsSoMany("CLEAR at " + place + ", " + left + " left", of(2), bits, place - 1 + more);
            }
        }
    }

    // "1 the bits end (FORMS 0, 1: when a bit more is wanted)"
    private static void bitsEndAtEachByte() {
        for (int form = 0; form <= 1; form++) {
            for (int length : new int[] {0, 1, 7, 30}) {
                LzwForms x = Make.with(form, 8, 12, 5, Make.counted(length, 256));
                int bytes = x.write();
                for (int n = bytes - 1; n >= 0; n--) {
                    x.cut(n);
                    Due.is("14: cut(" + n + "): read()", x.read(), -11);
                    Due.is("15: cut(" + n + "): fault()", x.fault(), 8 * n);
                }
                Due.is("14: DATA stays", x.told(0), length);
            }
        }
        // FORM 2 has no FAULT 1: what is cut off is not missed, or its CODE has left a bit 1.
        LzwForms x = Make.with(2, 8, 12, 0, 0, 0, 0);
        x.write();
        x.cut(2);
        Due.is("14: FORM 2: read()", x.read(), -16);
        Due.is("15: FORM 2: fault()", x.fault(), 10);
        x.cut(1);
        Due.is("14: FORM 2: a byte, read()", x.read(), 0);
    }

    private static void bitsEndWithinACode() {
        for (int form = 0; form <= 1; form++) {
            // Behind CODES that take just all bits, a bit more is wanted at once.
            meets("none is left", of(form), nine(form, 1, 2, 3, 4, 5, 6, 7), 1, 72);
            meets("one byte is left", of(form), nine(form, 1, 2, 3, 4, 5, 6, 7).zeros(8), 1, 80);
            reads("nine are left", of(form), nine(form, 1, 2, 3, 4, 5, 6, 7).code(END, 9), 1, 2, 3, 4, 5, 6, 7);
            meets("bits 1 that are no CODE", of(form), nine(form, 1, 2, 3, 4, 5, 6, 7).code(255, 8), 1, 80);
        }
        meets("K 2: two bits are left", Make.with(0, 2, 4, 1), new Bits(0).code(4, 3).code(0, 3).code(3, 2), 1, 8);
        meets("a byte without a whole CODE", of(0), new Bits(0).code(255, 8), 1, 8);
    }

    // "2 the first CODE is not CLEAR (FORMS 0, 1)"
    private static void eachFirstCode() {
        for (int k = 2; k <= 8; k++) {
            LzwForms x = Make.with(0, k, 12, 1);
            int step = k > 4 ? 1 << (k - 4) : 1;
            for (int code = 0; code < 2 << k; code += step) {
                Bits bits = new Bits(0).code(code, k + 1).code((1 << k) + 1, k + 1);
                if (code == 1 << k) {
                    reads("K " + k + ", CLEAR", x, bits);
                } else {
                    meets("K " + k + ", first " + code, x, bits, 2, k + 1);
                }
            }
        }
        for (int code : new int[] {0, 255, 256, 257, 258, 510, 511}) {
            Bits bits = new Bits(1).code(code, 9).code(END, 9);
            if (code == CLEAR) {
                reads("FORM 1, CLEAR", of(1), bits);
            } else {
                meets("FORM 1, first " + code, of(1), bits, 2, 9);
            }
        }
    }

    // "3 the first one behind the beginning (FORM 2) .. is FIRST or above"
    private static void eachFirstCodeInForm2() {
        for (int code : new int[] {0, 1, 255, 256, 257, 258, 510, 511}) {
            LzwForms x = of(2);
            if (code > CLEAR) {
                meets("FORM 2, first " + code, x, new Bits(2).code(code, 9), 3, 9);
            } else {
                readsSoMany("FORM 2, first " + code, x, new Bits(2).code(code, 9), code == CLEAR ? 0 : 1);
            }
        }
    }

    // "3 the first one behind .. a CLEAR is FIRST or above"
    private static void eachCodeBehindClear() {
        for (int form = 0; form <= 1; form++) {
            for (int code : new int[] {0, 1, 255, 258, 259, 510, 511}) {
                if (code >= 258) {
                    meets("behind the first", of(form), nine(form, code), 3, 18);
                    meets("behind the second", of(form), nine(form, CLEAR, code), 3, 27);
                    meets("behind a later one", of(form), nine(form, 1, 2, 3, CLEAR, code), 3, 54);
                } else {
                    reads("behind the first", of(form), nine(form, code, END), code);
                    reads("behind a later one", of(form), nine(form, 1, 2, 3, CLEAR, code, END), 1, 2, 3, code);
                }
            }
        }
        LzwForms x = Make.with(0, 2, 4, 1);
        for (int code = 0; code < 8; code++) {
            Bits bits = new Bits(0).code(4, 3).code(code, 3).code(5, 3);
            if (code >= 6) {
                meets("K 2, behind CLEAR " + code, x, bits, 3, 6);
            } else if (code < 4) {
                reads("K 2, behind CLEAR " + code, x, bits, code);
            }
        }
    }

    private static void eachCodeBehindClearInForm2() {
        for (int code : new int[] {0, 255, 257, 258, 511}) {
            Bits bits = nine(2, CLEAR).zeros(63).code(code, 9);
            Bits later = nine(2, 1, 2, 3, CLEAR).zeros(36).code(code, 9);
            if (code > CLEAR) {
                meets("FORM 2, behind CLEAR " + code, of(2), bits, 3, 81);
                meets("FORM 2, behind a later CLEAR " + code, of(2), later, 3, 81);
            } else {
                reads("FORM 2, behind CLEAR " + code, of(2), bits, code);
                reads("FORM 2, behind a later CLEAR " + code, of(2), later, 1, 2, 3, code);
            }
        }
    }

    // "4 another one is above COUNT"
    private static void eachCodeAgainstCount() {
        for (int form = 0; form <= 2; form++) {
            for (int ahead = 1; ahead <= 6; ahead++) {
                int count = first(form) + ahead - 1;
                int[] symbols = Make.counted(ahead, 256);
                for (int code : new int[] {count - 1, count, count + 1, count + 2, 511}) {
                    Bits bits = nine(form, symbols).code(code, 9);
                    int read = bits.length();
                    ended(form, bits, 9);
                    String name = "FORM " + form + ", " + ahead + " ahead, " + code;
                    if (code > count) {
                        meets(name, of(form), bits, 4, read);
                    } else if (code >= first(form)) {
                        readsSoMany(name, of(form), bits, ahead + 2);
                    }
                }
            }
        }
    }

    private static void countAtTheWidths() {
        // The highest CODES that nine bits and the first that ten bits can tell.
        int[] narrow = {255, 254, 256};
        for (int form = 0; form <= 2; form++) {
            int takes = narrow[form];
            int count = form == 1 ? 511 : 512;
            Bits bits = single(form, takes - 1, takes).code(count - 1, 9);
            readsSoMany("the highest of WIDTH 9", of(form), ended(form, bits, 10), takes + 1);
            bits = single(form, takes, takes).code(count, 10);
            readsSoMany("the first of WIDTH 10", of(form), ended(form, bits, 10), takes + 2);
            bits = single(form, takes, takes).code(count + 1, 10);
            meets("above the first of WIDTH 10", of(form), bits, 4, bits.length());
            bits = single(form, takes, takes).code(1023, 10);
            meets("the highest of WIDTH 10", of(form), bits, 4, bits.length());
        }
        // FORM 1 has room for 511 in nine bits where COUNT is 510.
        Bits bits = single(1, 253, 254).code(511, 9);
        meets("511 where COUNT is 510", of(1), bits, 4, bits.length());
    }

    private static void countBehindClear() {
        for (int form = 0; form <= 1; form++) {
            reads("FIRST again", of(form), nine(form, 1, 2, 3, CLEAR, 4, 258, END), 1, 2, 3, 4, 4, 4);
            meets("FIRST + 1", of(form), nine(form, 1, 2, 3, CLEAR, 4, 259, END), 4, 63);
        }
        reads("FORM 2: FIRST again", of(2), nine(2, 1, 2, 3, CLEAR).zeros(36).code(4, 9).code(257, 9), 1, 2, 3, 4, 4, 4);
        meets("FORM 2: FIRST + 1", of(2), nine(2, 1, 2, 3, CLEAR).zeros(36).code(4, 9).code(258, 9), 4, 90);
    }

    /** CODES that give 300 SYMBOLS: 1 + 2 + .. + 24. */
    private static Bits that300(int form) {
        Bits bits = nine(form, 9);
        for (int i = 0; i < 23; i++) {
            bits.code(first(form) + i, 9);
        }
        return bits;
    }

    // "DATA is a row of SYMBOLS, 300 at most"; "5 it gives the 301st SYMBOL"
    private static void just300() {
        for (int form = 0; form <= 2; form++) {
            LzwForms x = of(form);
            readsSoMany("300 by 24 CODES", x, ended(form, that300(form), 9), 300);
            Due.is("14: at(299)", x.at(299), 9);
            Due.is("14: at(300)", x.at(300), NONE);
            Due.is("3: the next", x.symbol(9), LzwForms.ROOM);
            int narrow = form == 1 ? 254 : 255 + form / 2;
            x = of(form);
            readsSoMany("300 by 300 CODES", x, ended(form, single(form, 300, narrow), 10), 300);
            Due.is("14: at(299)", x.at(299), 43);
        }
    }

    private static void the301st() {
        for (int form = 0; form <= 2; form++) {
            Bits bits = that300(form).code(9, 9);
            int read = bits.length();
            meets("a SYMBOL is the 301st", of(form), ended(form, bits, 9), 5, read);
            int narrow = form == 1 ? 254 : 255 + form / 2;
            bits = single(form, 301, narrow);
            read = bits.length();
            meets("the 301st CODE", of(form), ended(form, bits, 10), 5, read);
            // The NUMBER that the 301st CODE makes is the highest that there can be.
            bits = single(form, 300, narrow).code(first(form) + 299, 10);
            read = bits.length();
            meets("the 301st CODE is COUNT", of(form), ended(form, bits, 10), 5, read);
            bits = single(form, 300, narrow).code(first(form) + 300, 10);
            read = bits.length();
            meets("the 301st CODE is above COUNT", of(form), ended(form, bits, 10), 4, read);
        }
    }

    /** CODES that give 276 SYMBOLS, 1 + 2 + .. + 23, and so many more one by one. */
    private static Bits that276And(int form, int more) {
        Bits bits = nine(form, 9);
        for (int i = 0; i < 22; i++) {
            bits.code(first(form) + i, 9);
        }
        for (int i = 0; i < more; i++) {
            bits.code(9, 9);
        }
        return bits;
    }

    private static void the301stWithinAString() {
        for (int form = 0; form <= 2; form++) {
            for (int more = 1; more <= 3; more++) {
                // The STRING of FIRST has two SYMBOLS, and each next one has one more.
                int fits = first(form) + (24 - more) - 2;
                Bits bits = that276And(form, more).code(fits, 9);
                readsSoMany("just fits", of(form), ended(form, bits, 9), 300);
                bits = that276And(form, more).code(fits + 1, 9);
                meets("one too many", of(form), bits, 5, bits.length());
            }
            Bits bits = that300(form).code(first(form) + 23, 9);
            meets("25 too many", of(form), bits, 5, bits.length());
        }
    }

    private static void moreBehind300() {
        for (int form = 0; form <= 1; form++) {
            Bits bits = that300(form).code(CLEAR, 9).code(CLEAR, 9).code(END, 9);
            readsSoMany("CLEARS behind the 300th", of(form), bits, 300);
            bits = that300(form).code(CLEAR, 9).code(0, 9).code(END, 9);
            meets("a SYMBOL behind a CLEAR", of(form), bits, 5, 27 * 9);
            bits = that300(form);
            meets("no END", of(form), bits, 1, 8 * bits.bytes());
        }
        // 24 CODES in FORM 2 are three GROUPS, so nothing fills the last byte.
        readsSoMany("FORM 2: a byte of 0", of(2), that300(2).zeros(8), 300);
        meets("FORM 2: two bytes of 0", of(2), that300(2).zeros(16), 5, 225);
        readsSoMany("FORM 2: CLEAR", of(2), that300(2).code(CLEAR, 9), 300);
    }

    // "6 a bit that fills .. the last byte .. is 1 (as soon as it is read)"
    private static void eachBitThatFillsTheLastByte() {
        for (int form = 0; form <= 1; form++) {
            for (int count = 0; count <= 7; count++) {
                Bits bits = nine(form, Make.counted(count, 256)).code(END, 9);
                int read = bits.length();
                int left = 8 * bits.bytes() - read;
                LzwForms x = of(form);
                readsSoMany(left + " bits 0", x, bits, count);
                for (int place = 0; place < left; place++) {
                    int position = read + place;
                    x.flip(position / 8, form == 1 ? 7 - position % 8 : position % 8);
                    Due.is("14: bit " + position + ": read()", x.read(), -16);
                    Due.is("15: bit " + position + ": fault()", x.fault(), position + 1);
                    x.flip(position / 8, form == 1 ? 7 - position % 8 : position % 8);
                }
                Due.is("14: turned back: read()", x.read(), count);
            }
        }
        // Two bits 1: the first that is read is told.
        meets("two bits 1", of(0), nine(0, END).zeros(2).code(1, 1).code(1, 1), 6, 21);
        meets("two bits 1, FORM 1", of(1), nine(1, END).zeros(2).code(1, 1).code(1, 1), 6, 21);
    }

    // "6 a bit that fills a GROUP .. is 1 (as soon as it is read)"
    private static void eachBitThatFillsAGroup() {
        for (int place = 1; place <= 8; place++) {
            int[] symbols = Make.counted(place - 1, 256);
            int ahead = 9 * place;
            LzwForms x = of(2);
            readsSoMany("CLEAR at " + place, x, nine(2, symbols).code(CLEAR, 9).zeros(72 - ahead).code(7, 9), place);
            for (int position = ahead; position < 72; position++) {
                x.flip(position / 8, position % 8);
                Due.is("14: bit " + position + ": read()", x.read(), -16);
                Due.is("15: bit " + position + ": fault()", x.fault(), position + 1);
                x.flip(position / 8, position % 8);
            }
            Due.is("14: turned back: read()", x.read(), place);
        }
        // "up to eight CODES of that one's WIDTH": a CLEAR of ten bits is followed by seventy more.
        Bits bits = single(2, 256, 256).code(CLEAR, 10).zeros(69).code(1, 1).code(5, 9);
        meets("the last bit at WIDTH 10", of(2), bits, 6, 2304 + 80);
        bits = single(2, 256, 256).code(CLEAR, 10).zeros(70).code(5, 9);
        readsSoMany("WIDTH 10", of(2), bits, 257);
    }

    // "6 a bit that .. is left in FORM 2, is 1 (as soon as it is read)"
    private static void eachBitThatIsLeft() {
        for (int count = 0; count <= 8; count++) {
            LzwForms x = of(2);
            Bits bits = nine(2, Make.counted(count, 256));
            bits.zeros(8 - count);
            readsSoMany(count + " CODES", x, bits, count);
            for (int position = 9 * count; position < 8 * bits.bytes(); position++) {
                x.flip(position / 8, position % 8);
                Due.is("14: bit " + position + ": read()", x.read(), -16);
                Due.is("15: bit " + position + ": fault()", x.fault(), position + 1);
                x.flip(position / 8, position % 8);
            }
        }
        // Behind a CLEAR that comes last, 63 bits that would fill and 8 that are no CODE.
        LzwForms x = of(2);
        readsSoMany("CLEAR, 71 bits", x, nine(2, CLEAR).zeros(71), 0);
        Due.is("14: ten bytes", x.told(5), 10);
        for (int position = 9; position < 80; position++) {
            x.flip(position / 8, position % 8);
            Due.is("14: bit " + position + ": read()", x.read(), -16);
            Due.is("15: bit " + position + ": fault()", x.fault(), position + 1);
            x.flip(position / 8, position % 8);
        }
    }

    // "or, behind those, a byte more stands on THE TAPE"
    private static void aByteMore() {
        for (int form = 0; form <= 1; form++) {
            for (int count = 0; count <= 7; count++) {
                Bits bits = nine(form, Make.counted(count, 256)).code(END, 9);
                for (int v : new int[] {0, 1, 128, 255}) {
                    LzwForms x = of(form);
                    bits.putOn(x);
                    x.more(v);
                    Due.is("14: a byte " + v + ": read()", x.read(), -16);
                    Due.is("15: a byte " + v + ": fault()", x.fault(), 8 * bits.bytes());
                    x.more(v);
                    Due.is("14: two bytes " + v + ": read()", x.read(), -16);
                    Due.is("15: two bytes " + v + ": fault()", x.fault(), 8 * bits.bytes());
                    x.cut(bits.bytes());
                    Due.is("14: cut away: read()", x.read(), count);
                }
            }
            // A bit 1 in the last byte is met ahead of it.
            meets("a bit 1, and a byte", of(form), nine(form, END).zeros(5).code(1, 1).code(0, 8), 6, 24);
            meets("an earlier bit 1, and a byte", of(form), nine(form, END).code(1, 1).zeros(5).code(0, 8), 6, 19);
        }
    }

    // "FAULTS, the first that is met"
    private static void theFirstFaultThatIsMet() {
        for (int form = 0; form <= 1; form++) {
            meets("2 ahead of 1", of(form), new Bits(form).code(7, 9), 2, 9);
            meets("2 ahead of 3", of(form), new Bits(form).code(300, 9).code(300, 9), 2, 9);
            meets("3 ahead of 4", of(form), nine(form, 300, 300), 3, 18);
            meets("3 ahead of 1", of(form), nine(form, 300), 3, 18);
            meets("4 ahead of 1", of(form), nine(form, 1, 300), 4, 27);
            meets("4 ahead of 6", of(form), nine(form, 1, 300, END).code(1, 1), 4, 27);
            meets("4 ahead of 5", of(form), that300(form).code(511, 9), 4, 26 * 9);
            meets("5 ahead of 4", of(form), that300(form).code(0, 9).code(511, 9), 5, 26 * 9);
            meets("5 ahead of 6", of(form), that300(form).code(0, 9).code(END, 9).code(1, 1), 5, 26 * 9);
        }
        meets("FORM 2: 6 ahead of 3", of(2), nine(2, CLEAR).zeros(62).code(1, 1).code(300, 9), 6, 72);
        meets("FORM 2: 3 ahead of 6", of(2), nine(2, 300).code(1, 1), 3, 9);
        meets("FORM 2: 4 ahead of 6", of(2), nine(2, 1, 300).code(1, 1), 4, 18);
        meets("FORM 2: 4 ahead of 5", of(2), that300(2).code(511, 9), 4, 225);
        meets("FORM 2: 5 ahead of 6", of(2), that300(2).code(0, 9).code(1, 1), 5, 225);
    }

    private static void tapesOf400Bytes() {
        for (int form = 0; form <= 2; form++) {
            LzwForms zeros = of(form);
            LzwForms ones = of(form);
            for (int i = 0; i < 400; i++) {
                zeros.more(0);
                ones.more(255);
            }
            // In FORM 2: 256 CODES of nine bits, and 45 of ten, the last of which is too many.
            Due.is("14: 400 bytes 0", zeros.read(), form == 2 ? -15 : -12);
            Due.is("15: 400 bytes 0", zeros.fault(), form == 2 ? 2304 + 450 : 9);
            Due.is("14: 400 bytes 255", ones.read(), form == 2 ? -13 : -12);
            Due.is("15: 400 bytes 255", ones.fault(), 9);
        }
        // END takes the very last bits: 354 CLEARS and END are 3195 bits.
        for (int form = 0; form <= 1; form++) {
            Bits bits = new Bits(form);
            for (int i = 0; i < 354; i++) {
                bits.code(CLEAR, 9);
            }
            reads("400 bytes, END", of(form), bits.code(END, 9));
            bits = new Bits(form);
            for (int i = 0; i < 355; i++) {
                bits.code(CLEAR, 9);
            }
            meets("400 bytes, no END", of(form), bits, 1, 3200);
        }
    }

    // Promise 14: "DATA becomes what THE TAPE (it stays) is read as: how many SYMBOLS"
    private static void dataBecomes() {
        for (int form = 0; form <= 2; form++) {
            LzwForms x = Make.with(form, 8, 12, 1, 1, 2, 3, 4, 5);
            reads("fewer than before", x, ended(form, nine(form, 7, 8), 9), 7, 8);
            reads("more than before", x, ended(form, nine(form, 7, 8, 9, 10), 9), 7, 8, 9, 10);
            reads("none at all", x, ended(form, nine(form), 9));
            Due.is("14: told(0)", x.told(0), 0);
            Due.is("14: empty()", x.empty(), 0);
            x = Make.with300(form, 1);
            Due.is("14: PACKED before", x.told(6), form == 2 ? 24 : 26);
            reads("one in the place of 300", x, ended(form, nine(form, 5), 9), 5);
            Due.is("14: PACKED anew", x.told(6), form == 2 ? 1 : 3);
            Due.is("14: PACKED anew, told(8)", x.told(8), 0);
            Due.is("3: goes on behind", x.symbol(6), 2);
            Due.is("8: a new STRING", x.string(first(form), 0), 5);
        }
    }

    // Promise 14: "with a FAULT -10 less its number (DATA stays)"
    private static void dataStaysWithAFault() {
        Bits[] bad = {nine(0, 1, 2), new Bits(0).code(1, 9), nine(0, 1, CLEAR, 300), nine(0, 1, 2, 300),
            that300(0).code(9, 9), nine(0, 1, 2, END).zeros(4).code(0, 8)};
        for (int fault = 1; fault <= 6; fault++) {
            LzwForms x = Make.with(0, 8, 12, 1, 200, 201, 200, 201);
            int codes = x.told(6);
            bad[fault - 1].putOn(x);
            Due.is("14: FAULT " + fault, x.read(), -10 - fault);
            Due.is("14: FAULT " + fault + ": told(0)", x.told(0), 4);
            Due.is("14: FAULT " + fault + ": at(0)", x.at(0), 200);
            Due.is("14: FAULT " + fault + ": at(3)", x.at(3), 201);
            Due.is("14: FAULT " + fault + ": at(4)", x.at(4), NONE);
            Due.is("14: FAULT " + fault + ": told(6)", x.told(6), codes);
            Due.is("14: FAULT " + fault + ": string(258, 1)", x.string(258, 1), 201);
            LzwForms none = of(0);
            bad[fault - 1].putOn(none);
            none.read();
            Due.is("14: FAULT " + fault + ": none stays none", none.told(0), 0);
            Due.is("2: FAULT " + fault + ": no STATE", none.setting(0, 8, 12, 1), 1);
        }
    }

    private static void tapeStays() {
        for (int form = 0; form <= 2; form++) {
            LzwForms x = of(form);
            Bits good = ended(form, nine(form, 7, first(form), 8), 9);
            Bits bad = ended(form, nine(form, 7, 400, 8), 9);
            for (Bits bits : new Bits[] {good, bad}) {
                bits.putOn(x);
                int answer = x.read();
                Due.is("14: told(5)", x.told(5), bits.bytes());
                for (int i = 0; i < bits.bytes(); i++) {
                    Due.is("14: octet(" + i + ")", x.octet(i), bits.octet(i));
                }
                Due.is("14: once more", x.read(), answer);
            }
        }
    }

    // "TO READ the whole TAPE by the SETTING": CLEARS has no say, the others have
    private static void readByTheSettingThatIsNow() {
        for (int clears : new int[] {0, 1, 2, 100}) {
            reads("CLEARS " + clears, Make.with(0, 8, 12, clears), nine(0, 1, 2, 3, CLEAR, 4, END), 1, 2, 3, 4);
        }
        LzwForms x = of(0);
        nine(0, 7, END).putOn(x);
        // By FORM 2 it is a CLEAR, and the bits of 7 are not those that fill a GROUP.
        int[][] due = {{0, 8, 1, NONE}, {1, 8, -12, 9}, {2, 8, -16, 10}, {0, 2, -12, 3}, {0, 7, -12, 8}};
        for (int[] one : due) {
            x.empty();
            x.setting(one[0], one[1], 12, 1);
            Due.is("14: by FORM " + one[0] + ", K " + one[1], x.read(), one[2]);
            Due.is("15: by FORM " + one[0] + ", K " + one[1], x.fault(), one[3]);
        }
        // COUNT comes to 16 behind eleven CODES: the next has WIDTH 5, but not with MOST 4.
        Bits bits = fullButOne().code(2, 4).code(3, 5).code(5, 5);
        readsSoMany("MOST 5", Make.with(0, 2, 5, 1), bits, 12);
        readsSoMany("MOST 4", Make.with(0, 2, 4, 1), fullButOne().code(2, 4).code(3, 4).code(5, 4), 12);
        // Five bits each, read by four: 1100 0101 0000 are 3, 10, 0, and no END.
        meets("five bits with MOST 4", Make.with(0, 2, 4, 1), bits, 1, 8 * bits.bytes());
    }

    // Promise 15: "NONE: it met none, or there was no read()."
    private static void noFault() {
        Due.is("15: a new object", new LzwForms().fault(), NONE);
        LzwForms x = of(0);
        x.symbol(1);
        x.write();
        x.flip(0, 0);
        Due.is("15: no read()", x.fault(), NONE);
        x.flip(0, 0);
        x.read();
        Due.is("15: it met none", x.fault(), NONE);
        x = of(2);
        x.read();
        Due.is("15: FORM 2, of nothing", x.fault(), NONE);
    }

    // Promise 15: "as the latest read() met its FAULT"
    private static void faultOfTheLatest() {
        LzwForms x = of(0);
        meets("first", x, nine(0, 300), 3, 18);
        meets("then", x, nine(0, 1, 300), 4, 27);
        reads("then none", x, nine(0, 1, END), 1);
        meets("then one of 0 bits", x, new Bits(0), 1, 0);
        reads("none again", x, nine(0, END));
        meets("the most bits", x, nine(0, END).zeros(6 + 3176), 6, 24);
    }

    private static void faultStays() {
        LzwForms x = of(0);
        meets("stays", x, nine(0, 1, 300), 4, 27);
        x.symbol(1);
        x.write();
        x.cut(0);
        x.more(1);
        x.flip(0, 0);
        x.told(6);
        x.setting(0, 2, 4, 0);
        x.empty();
        x.setting(2, 8, 12, 0);
        x.symbol(-1);
        Due.is("15: stays", x.fault(), 27);
        Due.is("15: is asked again", x.fault(), 27);
    }
}
