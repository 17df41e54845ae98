import java.util.function.Supplier;
import java.util.function.ToIntFunction;

/**
 * The boundary cases of promises 1 to 6 and 10 to 13, and of what the document says of all calls.
 * Above each test stands the sentence that it holds.
 */
public final class BoundsOfCallsTest {
    private static final int NONE = LzwForms.NONE;
    private static final int OUTSIDE = LzwForms.OUTSIDE;
    private static final int STATE = LzwForms.STATE;
    private static final int ROOM = LzwForms.ROOM;
    private static final int LOW = Integer.MIN_VALUE;
    private static final int HIGH = Integer.MAX_VALUE;

    public static void main(String[] args) {
        dataAndTapeAreEmpty();
        atFirst();
        formBounds();
        kBounds();
        kIsEightInForms1And2();
        mostBounds();
        clearsBounds();
        settingWithData();
        tapeStaysWithSetting();
        symbolsByK();
        symbolsByTheSettingThatIsNow();
        threeHundredSymbols();
        emptyOnce();
        emptyAgain();
        atBounds();
        toldBounds();
        toldOfEmpty();
        moreBounds();
        fourHundredBytes();
        cutBounds();
        cutAll();
        flipBounds();
        flipEachBit();
        octetBounds();
        theFirstThatFits();
        refusedCallsChangeNothing();
        askingChangesNothing();
        eachCallChangesItsOwnAlone();
        anyArgumentsInAnyState();
        upToThe512thCall();
        Due.end();
    }

    // Promise 1: "DATA and THE TAPE are empty."
    private static void dataAndTapeAreEmpty() {
        Due.is("1: told(0)", new LzwForms().told(0), 0);
        Due.is("1: told(5)", new LzwForms().told(5), 0);
        Due.is("1: at(0)", new LzwForms().at(0), NONE);
        Due.is("1: octet(0)", new LzwForms().octet(0), NONE);
        Due.is("1: empty()", new LzwForms().empty(), 0);
        Due.is("1: cut(0)", new LzwForms().cut(0), 0);
        Due.is("1: cut(1)", new LzwForms().cut(1), OUTSIDE);
        Due.is("1: flip(0, 0)", new LzwForms().flip(0, 0), NONE);
        Due.is("1: setting", new LzwForms().setting(0, 2, 4, 0), 1);
        Due.is("1: read()", new LzwForms().read(), -11);
        Due.is("1: fault()", new LzwForms().fault(), NONE);
    }

    // Terms: "At first 0, 8, 12, 1."
    private static void atFirst() {
        LzwForms x = new LzwForms();
        isSetting("at first", x, 0, 8, 12, 1);
        Due.is("at first: symbol(255)", x.symbol(255), 1);
        Due.is("at first: symbol(256)", x.symbol(256), OUTSIDE);
    }

    private static void isSetting(String name, LzwForms x, int form, int k, int most, int clears) {
        Due.is(name + ": told(1)", x.told(1), form);
        Due.is(name + ": told(2)", x.told(2), k);
        Due.is(name + ": told(3)", x.told(3), most);
        Due.is(name + ": told(4)", x.told(4), clears);
    }

    private static void fits(int form, int k, int most, int clears) {
        LzwForms x = new LzwForms();
        String call = "2: setting(" + form + ", " + k + ", " + most + ", " + clears + ")";
        Due.is(call, x.setting(form, k, most, clears), 1);
        isSetting(call, x, form, k, most, clears);
    }

    private static void isOutside(int form, int k, int most, int clears) {
        LzwForms x = new LzwForms();
        String call = "2: setting(" + form + ", " + k + ", " + most + ", " + clears + ")";
        Due.is(call, x.setting(form, k, most, clears), OUTSIDE);
        isSetting(call, x, 0, 8, 12, 1);
    }

    // Terms: "a FORM (0, 1, 2)"
    private static void formBounds() {
        for (int form = 0; form <= 2; form++) {
            fits(form, 8, 12, 1);
        }
        for (int form : new int[] {LOW, -1, 3, 4, HIGH}) {
            isOutside(form, 8, 12, 1);
        }
    }

    // Terms: "K (2 to 8"
    private static void kBounds() {
        for (int k = 2; k <= 8; k++) {
            fits(0, k, 12, 1);
        }
        for (int k : new int[] {LOW, -1, 0, 1, 9, 10, HIGH - 1, HIGH}) {
            isOutside(0, k, 12, 1);
            isOutside(0, k, k + 2, 1);
        }
    }

    // Terms: "8 in FORMS 1, 2"
    private static void kIsEightInForms1And2() {
        for (int form = 1; form <= 2; form++) {
            for (int k = 2; k <= 7; k++) {
                isOutside(form, k, 12, 1);
            }
            isOutside(form, 9, 12, 1);
            fits(form, 8, 12, 1);
        }
    }

    // Terms: "MOST (K + 2 to 12)"
    private static void mostBounds() {
        for (int form = 0; form <= 2; form++) {
            for (int k = form == 0 ? 2 : 8; k <= 8; k++) {
                for (int most = k + 2; most <= 12; most++) {
                    fits(form, k, most, 1);
                }
                for (int most : new int[] {LOW, -1, 0, k, k + 1, 13, HIGH}) {
                    isOutside(form, k, most, 1);
                }
            }
        }
    }

    // Terms: "CLEARS (0 never, 1 when the TABLE is FULL, 2 to 100 behind so many CODES)"
    private static void clearsBounds() {
        for (int form = 0; form <= 2; form++) {
            for (int clears : new int[] {0, 1, 2, 3, 99, 100}) {
                fits(form, 8, 12, clears);
            }
            for (int clears : new int[] {LOW, -1, 101, HIGH}) {
                isOutside(form, 8, 12, clears);
            }
        }
    }

    // Promise 2: "STATE: DATA is not empty."
    private static void settingWithData() {
        LzwForms x = Make.with(0, 3, 7, 5, 1);
        Due.is("2: with one SYMBOL", x.setting(0, 3, 7, 6), STATE);
        Due.is("2: the same SETTING", x.setting(0, 3, 7, 5), STATE);
        isSetting("2: STATE", x, 0, 3, 7, 5);
        x.empty();
        Due.is("2: with DATA empty again", x.setting(0, 3, 7, 6), 1);
        isSetting("2: empty again", x, 0, 3, 7, 6);
        Due.is("2: twice", x.setting(1, 8, 10, 100), 1);
        isSetting("2: twice", x, 1, 8, 10, 100);
        Due.is("2: with 300 SYMBOLS", Make.with300(0, 1).setting(0, 8, 12, 1), STATE);
        x = Make.with(2, 8, 12, 1, 7);
        x.write();
        x.empty();
        x.read();
        Due.is("2: with DATA that were read", x.setting(2, 8, 12, 0), STATE);
        x.empty();
        x.cut(0);
        Due.is("2: no SYMBOLS are read", x.read(), 0);
        Due.is("2: with no SYMBOLS read", x.setting(2, 8, 12, 0), 1);
    }

    // Promise 2: "(THE TAPE stays.)"
    private static void tapeStaysWithSetting() {
        LzwForms x = new LzwForms();
        x.more(255);
        x.more(1);
        for (int form = 0; form <= 2; form++) {
            x.setting(form, 8, 10, 0);
            Due.is("2: bytes", x.told(5), 2);
            Due.is("2: octet(0)", x.octet(0), 255);
            Due.is("2: octet(1)", x.octet(1), 1);
        }
    }

    // Terms: "SYMBOLS are 0 to 2^K - 1." Promise 3: "OUTSIDE"
    private static void symbolsByK() {
        for (int k = 2; k <= 8; k++) {
            LzwForms x = Make.with(0, k, 12, 1);
            int high = (1 << k) - 1;
            Due.is("3: K " + k + ", symbol(0)", x.symbol(0), 1);
            Due.is("3: K " + k + ", the highest", x.symbol(high), 2);
            Due.is("3: K " + k + ", at(1)", x.at(1), high);
            for (int v : new int[] {LOW, -1, high + 1, high + 2, 256, HIGH}) {
                Due.is("3: K " + k + ", symbol(" + v + ")", x.symbol(v), OUTSIDE);
            }
            Due.is("3: K " + k + ", told(0)", x.told(0), 2);
        }
    }

    private static void symbolsByTheSettingThatIsNow() {
        LzwForms x = new LzwForms();
        x.setting(0, 2, 4, 1);
        Due.is("3: symbol(4) with K 2", x.symbol(4), OUTSIDE);
        x.setting(0, 3, 5, 1);
        Due.is("3: symbol(4) with K 3", x.symbol(4), 1);
        x.setting(0, 2, 4, 1);
        Due.is("3: symbol(7) after STATE", x.symbol(7), 2);
    }

    // Terms: "DATA is a row of SYMBOLS, 300 at most." Promise 3: "how many it has", "ROOM"
    private static void threeHundredSymbols() {
        for (int form = 0; form <= 2; form++) {
            LzwForms x = Make.with(form, 8, 12, 1);
            for (int i = 1; i <= 300; i++) {
                Due.is("3: symbol " + i, x.symbol(i % 256), i);
            }
            Due.is("3: the 301st", x.symbol(77), ROOM);
            Due.is("3: once more", x.symbol(77), ROOM);
            Due.is("3: told(0)", x.told(0), 300);
            Due.is("3: at(299)", x.at(299), 44);
            Due.is("3: at(300)", x.at(300), NONE);
            Due.is("3: empty()", x.empty(), 300);
            Due.is("3: room again", x.symbol(77), 1);
            Due.is("3: at(0) then", x.at(0), 77);
            Due.is("3: at(1) then", x.at(1), NONE);
        }
    }

    // Promise 4: "DATA is empty: how many SYMBOLS it had."
    private static void emptyOnce() {
        Due.is("4: of one", Make.with(0, 8, 12, 1, 0).empty(), 1);
        LzwForms x = Make.with300(1, 1);
        int bytes = x.told(5);
        Due.is("4: of 300", x.empty(), 300);
        Due.is("4: told(0)", x.told(0), 0);
        Due.is("4: at(0)", x.at(0), NONE);
        Due.is("4: at(299)", x.at(299), NONE);
        Due.is("4: told(5)", x.told(5), bytes);
        isSetting("4: the SETTING", x, 1, 8, 12, 1);
    }

    private static void emptyAgain() {
        LzwForms x = Make.with(0, 8, 12, 1, 1, 2);
        x.empty();
        Due.is("4: of nothing", x.empty(), 0);
        Due.is("4: told(0)", x.told(0), 0);
    }

    // Promise 5: "SYMBOL i of DATA; NONE."
    private static void atBounds() {
        LzwForms x = Make.with(0, 8, 12, 1);
        Due.is("5: of nothing", x.at(0), NONE);
        x.symbol(0);
        x.symbol(255);
        x.symbol(7);
        Due.is("5: the first, a 0", x.at(0), 0);
        Due.is("5: at(1)", x.at(1), 255);
        Due.is("5: the last", x.at(2), 7);
        for (int i : new int[] {LOW, -2, -1, 3, 4, 299, 300, HIGH}) {
            Due.is("5: at(" + i + ")", x.at(i), NONE);
        }
    }

    // Promise 6: "OUTSIDE."
    private static void toldBounds() {
        LzwForms x = Make.with(0, 8, 12, 1, 3);
        for (int what : new int[] {LOW, -2, -1, 10, 11, HIGH}) {
            Due.is("6: told(" + what + ")", x.told(what), OUTSIDE);
        }
        int[] due = {1, 0, 8, 12, 1, 0, 3, 27, 0, 1};
        for (int what = 0; what <= 9; what++) {
            Due.is("6: told(" + what + ")", x.told(what), due[what]);
        }
    }

    private static void toldOfEmpty() {
        int[][] due = {{0, 0, 8, 12, 1, 0, 2, 18, 0, 1}, {0, 1, 8, 12, 1, 0, 2, 18, 0, 1},
            {0, 2, 8, 12, 1, 0, 0, 0, 0, 0}};
        for (int form = 0; form <= 2; form++) {
            LzwForms x = Make.with(form, 8, 12, 1);
            for (int what = 0; what <= 9; what++) {
                Due.is("6: of nothing, told(" + what + ")", x.told(what), due[form][what]);
            }
        }
    }

    // Promise 10: "OUTSIDE: not 0 to 255"
    private static void moreBounds() {
        LzwForms x = Make.with(0, 2, 4, 1);
        Due.is("10: more(0)", x.more(0), 1);
        Due.is("10: more(255)", x.more(255), 2);
        for (int v : new int[] {LOW, -1, 256, 257, 511, HIGH}) {
            Due.is("10: more(" + v + ")", x.more(v), OUTSIDE);
        }
        Due.is("10: told(5)", x.told(5), 2);
        Due.is("10: octet(0)", x.octet(0), 0);
        Due.is("10: octet(1)", x.octet(1), 255);
    }

    // Terms: "THE TAPE are bytes, 400 at most". Promise 10: "how many there are", "ROOM"
    private static void fourHundredBytes() {
        LzwForms x = new LzwForms();
        for (int i = 1; i <= 400; i++) {
            Due.is("10: byte " + i, x.more(i % 256), i);
        }
        Due.is("10: the 401st", x.more(9), ROOM);
        Due.is("10: once more", x.more(255), ROOM);
        Due.is("10: told(5)", x.told(5), 400);
        Due.is("10: octet(399)", x.octet(399), 144);
        Due.is("10: octet(400)", x.octet(400), NONE);
        Due.is("10: cut(399)", x.cut(399), 1);
        Due.is("10: room again", x.more(9), 400);
        Due.is("10: octet(399) then", x.octet(399), 9);
        Due.is("10: ROOM again", x.more(9), ROOM);
    }

    // Promise 11: "Of THE TAPE just the first n bytes stay: how many went. OUTSIDE."
    private static void cutBounds() {
        LzwForms x = new LzwForms();
        Due.is("11: cut(0) of nothing", x.cut(0), 0);
        Due.is("11: cut(1) of nothing", x.cut(1), OUTSIDE);
        x.more(5);
        x.more(6);
        x.more(7);
        for (int n : new int[] {LOW, -1, 4, 5, 400, 401, HIGH}) {
            Due.is("11: cut(" + n + ")", x.cut(n), OUTSIDE);
        }
        Due.is("11: told(5)", x.told(5), 3);
        Due.is("11: all stay", x.cut(3), 0);
        Due.is("11: told(5) then", x.told(5), 3);
        Due.is("11: one goes", x.cut(2), 1);
        Due.is("11: octet(1)", x.octet(1), 6);
        Due.is("11: octet(2)", x.octet(2), NONE);
        Due.is("11: what went is out of bounds", x.cut(3), OUTSIDE);
    }

    private static void cutAll() {
        LzwForms x = new LzwForms();
        for (int i = 0; i < 400; i++) {
            x.more(1);
        }
        Due.is("11: cut(400)", x.cut(400), 0);
        Due.is("11: cut(401)", x.cut(401), OUTSIDE);
        Due.is("11: cut(0)", x.cut(0), 400);
        Due.is("11: told(5)", x.told(5), 0);
        Due.is("11: octet(0)", x.octet(0), NONE);
        Due.is("11: cut(0) again", x.cut(0), 0);
    }

    // Promise 12: "NONE: there is none such. OUTSIDE: j."
    private static void flipBounds() {
        LzwForms x = new LzwForms();
        Due.is("12: flip(0, 0) of nothing", x.flip(0, 0), NONE);
        Due.is("12: flip(0, 8) of nothing", x.flip(0, 8), OUTSIDE);
        x.more(170);
        x.more(85);
        for (int j : new int[] {LOW, -1, 8, 9, 31, 32, HIGH}) {
            for (int i : new int[] {LOW, -1, 0, 1, 2, HIGH}) {
                Due.is("12: flip(" + i + ", " + j + ")", x.flip(i, j), OUTSIDE);
            }
        }
        for (int i : new int[] {LOW, -1, 2, 3, 400, HIGH}) {
            Due.is("12: flip(" + i + ", 0)", x.flip(i, 0), NONE);
            Due.is("12: flip(" + i + ", 7)", x.flip(i, 7), NONE);
        }
        Due.is("12: octet(0)", x.octet(0), 170);
        Due.is("12: octet(1)", x.octet(1), 85);
        Due.is("12: told(5)", x.told(5), 2);
        x.cut(1);
        Due.is("12: a byte that went", x.flip(1, 0), NONE);
    }

    // Promise 12: "Bit j (0 the lowest) of byte i is turned: the byte then."
    private static void flipEachBit() {
        for (int form = 0; form <= 2; form++) {
            LzwForms x = Make.with(form, 8, 12, 1);
            x.more(0);
            x.more(255);
            for (int j = 0; j <= 7; j++) {
                Due.is("12: on", x.flip(0, j), 1 << j);
                Due.is("12: octet(0)", x.octet(0), 1 << j);
                Due.is("12: off", x.flip(0, j), 0);
                Due.is("12: off first", x.flip(1, j), 255 - (1 << j));
                Due.is("12: octet(1)", x.octet(1), 255 - (1 << j));
                Due.is("12: on again", x.flip(1, j), 255);
            }
        }
    }

    // Promise 13: "Byte i of THE TAPE; NONE."
    private static void octetBounds() {
        LzwForms x = new LzwForms();
        Due.is("13: of nothing", x.octet(0), NONE);
        x.more(0);
        x.more(128);
        x.more(255);
        Due.is("13: the first, a 0", x.octet(0), 0);
        Due.is("13: octet(1)", x.octet(1), 128);
        Due.is("13: the last", x.octet(2), 255);
        for (int i : new int[] {LOW, -2, -1, 3, 4, 399, 400, HIGH}) {
            Due.is("13: octet(" + i + ")", x.octet(i), NONE);
        }
    }

    // "Calls answer, the first of these that fits: OUTSIDE .., STATE (as told), ROOM"
    private static void theFirstThatFits() {
        LzwForms x = allFull();
        Due.is("OUTSIDE ahead of STATE: FORM", x.setting(3, 8, 12, 1), OUTSIDE);
        Due.is("OUTSIDE ahead of STATE: K", x.setting(0, 9, 12, 1), OUTSIDE);
        Due.is("OUTSIDE ahead of STATE: MOST", x.setting(0, 8, 9, 1), OUTSIDE);
        Due.is("OUTSIDE ahead of STATE: CLEARS", x.setting(0, 8, 12, 101), OUTSIDE);
        Due.is("STATE", x.setting(0, 8, 12, 100), STATE);
        Due.is("OUTSIDE ahead of ROOM: symbol(256)", x.symbol(256), OUTSIDE);
        Due.is("OUTSIDE ahead of ROOM: symbol(-1)", x.symbol(-1), OUTSIDE);
        Due.is("ROOM: symbol(255)", x.symbol(255), ROOM);
        Due.is("OUTSIDE ahead of ROOM: more(256)", x.more(256), OUTSIDE);
        Due.is("OUTSIDE ahead of ROOM: more(-1)", x.more(-1), OUTSIDE);
        Due.is("ROOM: more(255)", x.more(255), ROOM);
        Due.is("OUTSIDE ahead of NONE: flip", x.flip(400, 8), OUTSIDE);
        Due.is("OUTSIDE ahead of NONE: code", x.code(-1, 3), OUTSIDE);
        Due.is("OUTSIDE ahead of NONE: string", x.string(-1, 3), OUTSIDE);
    }

    /** DATA and THE TAPE are full, and the latest read() met FAULT 6. */
    private static LzwForms allFull() {
        LzwForms x = Make.with300(0, 2);
        // 200 CODES of STRINGS, 100 CLEARS and END, of nine bits each.
        Due.is("full: write()", x.write(), 339);
        for (int i = 339; i < 400; i++) {
            x.more(i % 256);
        }
        Due.is("full: read()", x.read(), -16);
        return x;
    }

    private static LzwForms someOfAll() {
        LzwForms x = Make.with(1, 8, 11, 3, 1, 2, 1, 2, 1, 2);
        x.write();
        x.flip(0, 7);
        Due.is("some of all: read()", x.read(), -12);
        return x;
    }

    private static LzwForms packedIsTooMuch() {
        LzwForms x = Make.with300(2, 2);
        x.more(1);
        return x;
    }

    private static void changesNothing(String call, Supplier<LzwForms> made, ToIntFunction<LzwForms> calling, int due) {
        LzwForms x = made.get();
        Due.is(call, calling.applyAsInt(x), due);
        String then = Seen.of(x);
        String else1 = Seen.of(made.get());
        Due.holds(call + " changes nothing:\n" + then + "\nis not\n" + else1 + "\n", then.equals(else1));
        LzwForms asked = made.get();
        Seen.of(asked);
        Due.is(call + " behind other calls", calling.applyAsInt(asked), due);
        Due.holds(call + " changes nothing behind other calls", Seen.of(asked).equals(else1));
    }

    // "then nothing changes."
    private static void refusedCallsChangeNothing() {
        changesNothing("setting, STATE", BoundsOfCallsTest::someOfAll, x -> x.setting(0, 2, 4, 0), STATE);
        changesNothing("setting, OUTSIDE", BoundsOfCallsTest::someOfAll, x -> x.setting(2, 8, 12, 101), OUTSIDE);
        changesNothing("setting, OUTSIDE, new", LzwForms::new, x -> x.setting(1, 2, 12, 0), OUTSIDE);
        changesNothing("setting, STATE, full", BoundsOfCallsTest::allFull, x -> x.setting(2, 8, 12, 0), STATE);
        changesNothing("symbol, OUTSIDE", BoundsOfCallsTest::someOfAll, x -> x.symbol(256), OUTSIDE);
        changesNothing("symbol, OUTSIDE, new", LzwForms::new, x -> x.symbol(-1), OUTSIDE);
        changesNothing("symbol, ROOM", BoundsOfCallsTest::allFull, x -> x.symbol(9), ROOM);
        changesNothing("symbol, OUTSIDE, full", BoundsOfCallsTest::allFull, x -> x.symbol(-1), OUTSIDE);
        changesNothing("told, OUTSIDE", BoundsOfCallsTest::someOfAll, x -> x.told(10), OUTSIDE);
        changesNothing("code, OUTSIDE", BoundsOfCallsTest::someOfAll, x -> x.code(0, 3), OUTSIDE);
        changesNothing("string, OUTSIDE", BoundsOfCallsTest::someOfAll, x -> x.string(0, -1), OUTSIDE);
        changesNothing("write, ROOM", BoundsOfCallsTest::packedIsTooMuch, x -> x.write(), ROOM);
        changesNothing("more, OUTSIDE", BoundsOfCallsTest::someOfAll, x -> x.more(-1), OUTSIDE);
        changesNothing("more, OUTSIDE, new", LzwForms::new, x -> x.more(256), OUTSIDE);
        changesNothing("more, ROOM", BoundsOfCallsTest::allFull, x -> x.more(0), ROOM);
        changesNothing("more, OUTSIDE, full", BoundsOfCallsTest::allFull, x -> x.more(256), OUTSIDE);
        changesNothing("cut, OUTSIDE, below", BoundsOfCallsTest::someOfAll, x -> x.cut(-1), OUTSIDE);
        changesNothing("cut, OUTSIDE, above", BoundsOfCallsTest::someOfAll, x -> x.cut(x.told(5) + 1), OUTSIDE);
        changesNothing("cut, OUTSIDE, full", BoundsOfCallsTest::allFull, x -> x.cut(401), OUTSIDE);
        changesNothing("flip, OUTSIDE", BoundsOfCallsTest::someOfAll, x -> x.flip(0, 8), OUTSIDE);
        changesNothing("flip, NONE", BoundsOfCallsTest::someOfAll, x -> x.flip(x.told(5), 0), NONE);
        changesNothing("flip, NONE, full", BoundsOfCallsTest::allFull, x -> x.flip(400, 7), NONE);
        changesNothing("read, FAULT 2 again", BoundsOfCallsTest::someOfAll, x -> x.read(), -12);
        changesNothing("read, FAULT 6 again", BoundsOfCallsTest::allFull, x -> x.read(), -16);
    }

    private static void askingChangesNothing() {
        changesNothing("at", BoundsOfCallsTest::someOfAll, x -> x.at(5), 2);
        changesNothing("at, NONE", BoundsOfCallsTest::someOfAll, x -> x.at(6), NONE);
        changesNothing("told", BoundsOfCallsTest::someOfAll, x -> x.told(9), 2);
        changesNothing("code", BoundsOfCallsTest::someOfAll, x -> x.code(0, 0), 256);
        changesNothing("code, NONE", BoundsOfCallsTest::someOfAll, x -> x.code(99, 0), NONE);
        changesNothing("string", BoundsOfCallsTest::someOfAll, x -> x.string(255, 2), 1);
        changesNothing("string, NONE", BoundsOfCallsTest::someOfAll, x -> x.string(256, 2), NONE);
        changesNothing("octet", BoundsOfCallsTest::someOfAll, x -> x.octet(0), 0);
        changesNothing("octet, NONE", BoundsOfCallsTest::someOfAll, x -> x.octet(-1), NONE);
        changesNothing("fault", BoundsOfCallsTest::someOfAll, x -> x.fault(), 9);
        changesNothing("empty of nothing", LzwForms::new, x -> x.empty(), 0);
        changesNothing("cut of nothing", LzwForms::new, x -> x.cut(0), 0);
        changesNothing("cut at the end", BoundsOfCallsTest::allFull, x -> x.cut(400), 0);
    }

    private static void eachCallChangesItsOwnAlone() {
        LzwForms x = someOfAll();
        int bytes = x.told(5);
        Due.is("symbol: DATA", x.symbol(200), 7);
        Due.is("symbol: THE TAPE", x.told(5), bytes);
        Due.is("symbol: fault()", x.fault(), 9);
        Due.is("more: THE TAPE", x.more(3), bytes + 1);
        Due.is("cut: THE TAPE", x.cut(bytes), 1);
        Due.is("flip: THE TAPE", x.flip(1, 0), x.octet(1));
        Due.is("more, cut, flip: DATA", x.told(0), 7);
        Due.is("more, cut, flip: fault()", x.fault(), 9);
        Due.holds("write: THE TAPE", x.write() == x.told(5));
        Due.is("write: DATA", x.told(0), 7);
        Due.is("write: fault()", x.fault(), 9);
        Due.is("read: DATA", x.read(), 7);
        Due.is("read: fault()", x.fault(), NONE);
        isSetting("read: the SETTING", x, 1, 8, 11, 3);
        bytes = x.told(5);
        Due.is("empty: DATA", x.empty(), 7);
        Due.is("empty: THE TAPE", x.told(5), bytes);
        isSetting("empty: the SETTING", x, 1, 8, 11, 3);
    }

    private static void anyArgumentsInAnyState() {
        int[] any = {LOW, LOW + 1, -300, -1, 0, 1, 2, 8, 255, 256, 257, 258, 300, 400, 557, 558, 4096, HIGH - 1, HIGH};
        for (Supplier<LzwForms> made : java.util.List.<Supplier<LzwForms>>of(LzwForms::new,
                BoundsOfCallsTest::someOfAll, BoundsOfCallsTest::allFull, BoundsOfCallsTest::packedIsTooMuch)) {
            for (int a : any) {
                LzwForms x = made.get();
                int sum = x.setting(a, 8, 12, 1) + x.setting(0, a, 12, 1) + x.setting(0, 8, a, 1)
                    + x.setting(0, 8, 12, a) + x.setting(a, a, a, a) + x.symbol(a) + x.at(a) + x.told(a)
                    + x.more(a) + x.octet(a) + x.cut(a) + x.read() + x.write() + x.fault() + x.empty();
                LzwForms y = made.get();
                for (int b : any) {
                    sum += y.code(a, b) + y.string(a, b) + y.flip(a, b) + y.code(b, 0) + y.string(b, 0);
                }
                sum += y.read() + y.write() + y.fault() + y.empty();
                Due.holds("no call throws with " + a, sum != HIGH);
            }
        }
    }

    // "An object is used for at most 512 calls after it has been made"
    private static void upToThe512thCall() {
        LzwForms x = new LzwForms();
        for (int i = 1; i <= 300; i++) {
            x.symbol(i % 256);
        }
        x.write();
        for (int i = 0; i < 104; i++) {
            x.flip(i, i % 8);
            x.flip(i, i % 8);
        }
        Due.is("the 510th call", x.empty(), 300);
        Due.is("the 511th call", x.told(0), 0);
        Due.is("the 512th call", x.read(), 300);
    }
}
