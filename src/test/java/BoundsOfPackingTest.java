/**
 * The boundary cases of DATA, PACKED: promises 6 to 9, with what "Terms" says of STRINGS, the
 * TABLE, CODES, WIDTHS and THE TAPE. Above each test stands the sentence that it holds.
 */
public final class BoundsOfPackingTest {
    private static final int NONE = LzwForms.NONE;
    private static final int OUTSIDE = LzwForms.OUTSIDE;
    private static final int ROOM = LzwForms.ROOM;
    private static final int LOW = Integer.MIN_VALUE;
    private static final int HIGH = Integer.MAX_VALUE;

    /** K and MOST of a TABLE that 300 SYMBOLS can make FULL, each SYMBOL a CODE. */
    private static final int[][] CAN_BE_FULL = {
        {2, 4}, {3, 5}, {3, 6}, {4, 6}, {4, 7}, {4, 8}, {5, 7}, {5, 8}, {6, 8}};

    public static void main(String[] args) {
        numbersOfSymbols();
        clearAndEndAreNone();
        tableIsEmptyAtFirst();
        firstByForm();
        fullAtLast();
        fullStaysFull();
        clearsAsSoonAsFull();
        neverFullWithin300();
        emptyData();
        oneSymbol();
        longestString();
        longestOfSeveral();
        clearEmptiesTheTable();
        packedOfEmptyDataFollowsTheSetting();
        dataEndsWithAString();
        clearsBehindSoMany();
        clearsCountCodesNotSymbols();
        clearsAndFull();
        countOfClears();
        firstWidths();
        widthsRise();
        widthsRiseTwice();
        mostIsTheWidestOfAll();
        widthBehindAClear();
        bitsOfTheTape();
        aCodeInThreeBytes();
        lastByteIsFilled();
        groupsBehindClear();
        groupsBehindAnotherWidth();
        lastGroupIsNotFilled();
        codeBounds();
        stringBounds();
        stringsOfTheLastTable();
        writeOfNothing();
        writeJust400();
        writeTakesThePlaceOfTheTape();
        mostCodesOfAll();
        Due.end();
    }

    private static int first(int form, int k) {
        return form == 2 ? 257 : (1 << k) + 2;
    }

    private static int lowestK(int form) {
        return form == 0 ? 2 : 8;
    }

    private static void isString(String name, LzwForms x, int number, int head, int tail, int length) {
        Due.is("8: " + name + ": string(" + number + ", 0)", x.string(number, 0), head);
        Due.is("8: " + name + ": string(" + number + ", 1)", x.string(number, 1), tail);
        Due.is("8: " + name + ": string(" + number + ", 2)", x.string(number, 2), length);
    }

    private static void isNoString(String name, LzwForms x, int number) {
        isString(name, x, number, NONE, NONE, NONE);
    }

    private static void codesAre(String name, LzwForms x, int... codes) {
        Due.is("6: " + name + ": told(6)", x.told(6), codes.length);
        for (int i = 0; i < codes.length; i++) {
            Due.is("7: " + name + ": code(" + i + ", 0)", x.code(i, 0), codes[i]);
        }
        Due.is("7: " + name + ": behind the last", x.code(codes.length, 0), NONE);
    }

    // "STRINGS have NUMBERS: the SYMBOLS their own". Promise 8: "NONE of a SYMBOL"
    private static void numbersOfSymbols() {
        for (int form = 0; form <= 2; form++) {
            for (int k = lowestK(form); k <= 8; k++) {
                LzwForms x = Make.with(form, k, k + 2, 1);
                isString("the lowest", x, 0, NONE, 0, 1);
                isString("the highest", x, (1 << k) - 1, NONE, (1 << k) - 1, 1);
                isNoString("below", x, -1);
            }
        }
    }

    // "then CLEAR, 2^K, and (but in FORM 2) END, 2^K + 1, which are none"
    private static void clearAndEndAreNone() {
        for (int form = 0; form <= 2; form++) {
            for (int k = lowestK(form); k <= 8; k++) {
                LzwForms x = Make.with(form, k, 12, 1, 1, 2, 3);
                isNoString("CLEAR", x, 1 << k);
                if (form == 2) {
                    isString("257 in FORM 2", x, 257, 1, 2, 2);
                } else {
                    isNoString("END", x, (1 << k) + 1);
                }
            }
        }
    }

    // "those of the TABLE, which is empty at first"
    private static void tableIsEmptyAtFirst() {
        for (int form = 0; form <= 2; form++) {
            for (int k = lowestK(form); k <= 8; k++) {
                LzwForms x = Make.with(form, k, 12, 1);
                Due.is("6: of nothing, told(8)", x.told(8), 0);
                isNoString("of nothing", x, first(form, k));
                x.symbol(3);
                Due.is("6: of one SYMBOL, told(8)", x.told(8), 0);
                isNoString("of one SYMBOL", x, first(form, k));
            }
        }
    }

    // "from FIRST on (2^K + 2, in FORM 2 257)"
    private static void firstByForm() {
        for (int form = 0; form <= 2; form++) {
            for (int k = lowestK(form); k <= 8; k++) {
                LzwForms x = Make.with(form, k, 12, 1, 3, 2);
                isString("FIRST", x, first(form, k), 3, 2, 2);
                isNoString("behind FIRST", x, first(form, k) + 1);
                isNoString("ahead of FIRST", x, first(form, k) - 1);
                Due.is("6: told(8)", x.told(8), 1);
            }
        }
    }

    // "It is FULL when the next NUMBER would be LAST, 2^MOST"
    private static void fullAtLast() {
        for (int[] one : CAN_BE_FULL) {
            int k = one[0];
            int last = 1 << one[1];
            int room = last - first(0, k);
            String name = "K " + k + ", MOST " + one[1];
            LzwForms x = Make.with(0, k, one[1], 0, Make.newPairs(room, 1 << k));
            Due.is("6: " + name + ", one is left: told(8)", x.told(8), room - 1);
            Due.is("8: " + name + ", one is left: string(LAST - 2, 2)", x.string(last - 2, 2), 2);
            isNoString(name + ", one is left", x, last - 1);
            x = Make.with(0, k, one[1], 0, Make.newPairs(room + 1, 1 << k));
            Due.is("6: " + name + ", FULL: told(8)", x.told(8), room);
            Due.is("8: " + name + ", FULL: string(LAST - 1, 2)", x.string(last - 1, 2), 2);
            Due.is("8: " + name + ", FULL: string(LAST - 1, 1)", x.string(last - 1, 1), x.at(room));
            isNoString(name + ", FULL", x, last);
        }
    }

    // "if .. the TABLE is not FULL"; CLEARS "0 never"
    private static void fullStaysFull() {
        for (int[] one : CAN_BE_FULL) {
            int k = one[0];
            int room = (1 << one[1]) - first(0, k);
            LzwForms x = Make.with(0, k, one[1], 0, Make.newPairs(room + 2, 1 << k));
            for (int i = 0; i < 20; i++) {
                x.symbol(i % 3);
            }
            Due.is("6: stays FULL: told(8)", x.told(8), room);
            Due.is("6: stays FULL: told(9)", x.told(9), 1);
            isNoString("stays FULL", x, 1 << one[1]);
            Due.is("8: FIRST stays", x.string(first(0, k), 1), x.at(1));
        }
    }

    // CLEARS "1 when the TABLE is FULL": "if DATA goes on, and with CLEARS 1 the TABLE is FULL"
    private static void clearsAsSoonAsFull() {
        for (int[] one : CAN_BE_FULL) {
            int k = one[0];
            int room = (1 << one[1]) - first(0, k);
            LzwForms x = Make.with(0, k, one[1], 1, Make.newPairs(room, 1 << k));
            Due.is("6: not FULL: told(9)", x.told(9), 1);
            Due.is("6: not FULL: told(6)", x.told(6), room + 2);
            Due.is("7: not FULL: END", x.code(room + 1, 0), (1 << k) + 1);
            x = Make.with(0, k, one[1], 1, Make.newPairs(room + 1, 1 << k));
            Due.is("6: FULL: told(9)", x.told(9), 2);
            Due.is("6: FULL: told(8)", x.told(8), 0);
            Due.is("6: FULL: told(6)", x.told(6), room + 4);
            Due.is("7: FULL: CLEAR", x.code(room + 1, 0), 1 << k);
            Due.is("7: FULL: WIDTH of CLEAR", x.code(room + 1, 1), one[1]);
            Due.is("7: FULL: the last SYMBOL", x.code(room + 2, 0), x.at(room));
            Due.is("7: FULL: its WIDTH", x.code(room + 2, 1), k + 1);
            isNoString("FULL, then empty", x, first(0, k));
            x = Make.with(0, k, one[1], 1, Make.newPairs(room + 2, 1 << k));
            Due.is("6: behind FULL: told(8)", x.told(8), 1);
            isString("behind FULL", x, first(0, k), x.at(room), x.at(room + 1), 2);
        }
    }

    // "in FORM 1 2^MOST - 1": 300 SYMBOLS make 299 STRINGS at most
    private static void neverFullWithin300() {
        for (int form = 0; form <= 2; form++) {
            LzwForms x = Make.with(form, 8, 10, 1, Make.newPairs(300, 256));
            Due.is("6: K 8, told(6)", x.told(6), form == 2 ? 300 : 302);
            Due.is("6: K 8, told(8)", x.told(8), 299);
            Due.is("6: K 8, told(9)", x.told(9), form == 2 ? 0 : 1);
            isString("K 8, the 299th", x, first(form, 8) + 298, x.at(298), x.at(299), 2);
            isNoString("K 8, the 300th", x, first(form, 8) + 299);
        }
        LzwForms x = Make.with(0, 7, 9, 1, Make.newPairs(300, 128));
        Due.is("6: K 7, told(8)", x.told(8), 299);
        Due.is("6: K 7, told(9)", x.told(9), 1);
    }

    // "in FORMS 0, 1 CLEAR is the first one .. At last, in FORMS 0, 1, END."
    private static void emptyData() {
        for (int k = 2; k <= 8; k++) {
            for (int clears : new int[] {0, 1, 2, 100}) {
                codesAre("of nothing", Make.with(0, k, k + 2, clears), 1 << k, (1 << k) + 1);
            }
        }
        codesAre("of nothing, FORM 1", Make.with(1, 8, 10, 2), 256, 257);
        codesAre("of nothing, FORM 2", Make.with(2, 8, 10, 2));
        LzwForms x = Make.with(2, 8, 10, 2);
        for (int what = 0; what <= 2; what++) {
            Due.is("7: of nothing, FORM 2: code(0, what)", x.code(0, what), NONE);
        }
    }

    private static void oneSymbol() {
        for (int k = 2; k <= 8; k++) {
            for (int clears : new int[] {0, 1, 2, 100}) {
                codesAre("of one", Make.with(0, k, k + 2, clears, 3), 1 << k, 3, (1 << k) + 1);
            }
        }
        codesAre("of one, FORM 1", Make.with(1, 8, 10, 2, 255), 256, 255, 257);
        codesAre("of one, FORM 2", Make.with(2, 8, 10, 2, 255), 255);
    }

    // "the longest STRING there is that stands next in DATA: its NUMBER is a CODE"
    private static void longestString() {
        // 1 2 is 258, 2 1 259, 1 2 1 260: then 1 2 1 2 has 260 as its longest, and not 258.
        LzwForms x = Make.with(0, 8, 12, 0, 1, 2, 1, 2, 1, 2, 1, 2);
        codesAre("the longest", x, 256, 1, 2, 258, 260, 2, 257);
        isString("the longest", x, 260, 258, 1, 3);
        isString("the longest and one", x, 261, 260, 2, 4);
        // A STRING that begins alike but goes on otherwise is not taken.
        codesAre("goes on otherwise", Make.with(0, 8, 12, 0, 1, 2, 1, 2, 1, 1, 2, 3),
            256, 1, 2, 258, 1, 258, 3, 257);
        // The very first STRING of 299 SYMBOLS that can be found whole.
        x = Make.with300(0, 0);
        Due.is("7: 300 of a kind: told(6)", x.told(6), 26);
        isString("300 of a kind", x, 258 + 22, 258 + 21, 9, 24);
        isNoString("300 of a kind", x, 258 + 23);
    }

    private static void longestOfSeveral() {
        // 1 2 is 259, 1 3 is 261 and 1 4 is 263: each of them is found again.
        codesAre("the first of three", Make.with(0, 8, 12, 0, 5, 1, 2, 1, 3, 1, 4, 1, 2),
            256, 5, 1, 2, 1, 3, 1, 4, 259, 257);
        codesAre("the second of three", Make.with(0, 8, 12, 0, 5, 1, 2, 1, 3, 1, 4, 1, 3),
            256, 5, 1, 2, 1, 3, 1, 4, 261, 257);
        codesAre("the third of three", Make.with(0, 8, 12, 0, 5, 1, 2, 1, 3, 1, 4, 1, 4),
            256, 5, 1, 2, 1, 3, 1, 4, 263, 257);
        codesAre("a fourth", Make.with(0, 8, 12, 0, 5, 1, 2, 1, 3, 1, 4, 1, 5),
            256, 5, 1, 2, 1, 3, 1, 4, 1, 5, 257);
    }

    // "CLEAR is a CODE, and the TABLE is empty."
    private static void clearEmptiesTheTable() {
        // 1 2 was FIRST ahead of the CLEAR; behind it 5 2 is, and 1 2 is none.
        LzwForms x = Make.with(0, 8, 12, 3, 1, 2, 3, 5, 2, 1, 2);
        codesAre("a STRING that was", x, 256, 1, 2, 3, 256, 5, 2, 1, 256, 2, 257);
        x = Make.with(0, 8, 12, 3, 1, 2, 3, 1, 2, 3);
        codesAre("STRINGS that were", x, 256, 1, 2, 3, 256, 1, 2, 3, 257);
        x = Make.with(2, 8, 12, 3, 1, 2, 3, 5, 2, 1, 2);
        codesAre("a STRING that was, FORM 2", x, 1, 2, 3, 256, 5, 2, 1, 256, 2);
        // The same for DATA that come behind others.
        x = Make.with(0, 8, 12, 0, 1, 2, 3);
        codesAre("DATA ahead", x, 256, 1, 2, 3, 257);
        x.empty();
        for (int v : new int[] {5, 2, 1, 2, 3}) {
            x.symbol(v);
        }
        codesAre("DATA behind", x, 256, 5, 2, 1, 2, 3, 257);
    }

    private static void packedOfEmptyDataFollowsTheSetting() {
        LzwForms x = Make.with(0, 8, 12, 1);
        codesAre("FORM 0", x, 256, 257);
        x.setting(2, 8, 12, 1);
        codesAre("then FORM 2", x);
        x.setting(0, 3, 12, 1);
        codesAre("then K 3", x, 8, 9);
        Due.is("6: then K 3: told(7)", x.told(7), 8);
        Due.is("9: then K 3: write()", x.write(), 1);
        x.setting(1, 8, 12, 1);
        Due.is("6: then FORM 1: told(7)", x.told(7), 18);
        Due.is("9: then FORM 1: write()", x.write(), 3);
    }

    // "if DATA goes on behind it"
    private static void dataEndsWithAString() {
        LzwForms x = Make.with(1, 8, 12, 1, 5, 5, 5);
        codesAre("ends with a STRING", x, 256, 5, 258, 257);
        Due.is("6: ends with a STRING: told(8)", x.told(8), 1);
        isNoString("ends with a STRING", x, 259);
        x.symbol(5);
        codesAre("ends behind it", x, 256, 5, 258, 5, 257);
        Due.is("6: ends behind it: told(8)", x.told(8), 2);
        isString("ends behind it", x, 259, 258, 5, 3);
        x.symbol(5);
        codesAre("ends within one", x, 256, 5, 258, 258, 257);
        Due.is("6: ends within one: told(8)", x.told(8), 2);
    }

    // "with CLEARS 2 and more this was the CLEARS-th CODE of a STRING since the beginning or the
    // latest CLEAR": if DATA goes on
    private static void clearsBehindSoMany() {
        for (int form = 0; form <= 2; form++) {
            int ahead = form == 2 ? 0 : 1;
            for (int clears : new int[] {2, 3, 7, 8, 50, 99, 100}) {
                String name = "FORM " + form + ", CLEARS " + clears;
                for (int length : new int[] {clears - 1, clears, clears + 1, 2 * clears, 2 * clears + 1}) {
                    LzwForms x = Make.with(form, 8, 12, clears, Make.counted(length, 256));
                    int due = (length - 1) / clears;
                    Due.is("6: " + name + ", " + length + ": told(9)", x.told(9), ahead + due);
                    Due.is("6: " + name + ", " + length + ": told(6)", x.told(6), 2 * ahead + length + due);
                    Due.is("6: " + name + ", " + length + ": told(8)", x.told(8), (length - 1) % clears);
                    for (int i = 1; i <= due; i++) {
                        int place = ahead + i * clears + i - 1;
                        Due.is("7: " + name + ": the last ahead", x.code(place - 1, 0), i * clears - 1);
                        Due.is("7: " + name + ": CLEAR", x.code(place, 0), 256);
                        Due.is("7: " + name + ": the first behind", x.code(place + 1, 0), i * clears);
                    }
                }
            }
        }
    }

    private static void clearsCountCodesNotSymbols() {
        // Each two CODES are three SYMBOLS: 7, and 7 7 as FIRST.
        codesAre("three of a kind", Make.with(0, 8, 12, 2, 7, 7, 7), 256, 7, 258, 257);
        codesAre("four of a kind", Make.with(0, 8, 12, 2, 7, 7, 7, 7), 256, 7, 258, 256, 7, 257);
        codesAre("seven of a kind", Make.with(2, 8, 12, 2, 7, 7, 7, 7, 7, 7, 7), 7, 257, 256, 7, 257, 256, 7);
    }

    // CLEARS from 2 on know nothing of a FULL TABLE: it stays FULL, and is begun anew when due
    private static void clearsAndFull() {
        int[] row = Make.newPairs(14, 4);
        for (int clears = 9; clears <= 13; clears++) {
            // Ten STRINGS fill the TABLE of K 2, MOST 4.
            LzwForms x = Make.with(0, 2, 4, clears, row);
            Due.is("CLEARS " + clears + ": CLEAR", x.code(clears + 1, 0), 4);
            Due.is("CLEARS " + clears + ": told(9)", x.told(9), 2);
            Due.is("CLEARS " + clears + ": told(8)", x.told(8), 13 - clears);
            Due.is("CLEARS " + clears + ": told(6)", x.told(6), 17);
            Due.is("CLEARS " + clears + ": WIDTH of CLEAR", x.code(clears + 1, 1), 4);
            Due.is("CLEARS " + clears + ": WIDTH behind", x.code(clears + 2, 1), 3);
        }
        LzwForms x = Make.with(0, 2, 4, 14, row);
        Due.is("CLEARS 14: told(9)", x.told(9), 1);
        Due.is("CLEARS 14: told(8)", x.told(8), 10);
    }

    // Promise 6: "how many CLEARS there are (9)"
    private static void countOfClears() {
        Due.is("6: none", Make.with(2, 8, 12, 0, 1, 2, 3).told(9), 0);
        Due.is("6: the first alone", Make.with(0, 8, 12, 0, 1, 2, 3).told(9), 1);
        Due.is("6: the most, FORM 0", Make.with(0, 8, 12, 2, Make.counted(300, 256)).told(9), 150);
        Due.is("6: the most, FORM 2", Make.with(2, 8, 12, 2, Make.counted(300, 256)).told(9), 149);
    }

    // "WIDTH is K + 1 at the beginning and behind a CLEAR"
    private static void firstWidths() {
        for (int form = 0; form <= 2; form++) {
            for (int k = lowestK(form); k <= 8; k++) {
                LzwForms x = Make.with(form, k, k + 2, 2, 0, 1, 2, 3, 0);
                for (int i = 0; i < x.told(6); i++) {
                    Due.is("7: WIDTH of " + i, x.code(i, 1), k + 1);
                }
            }
        }
    }

    /** How many CODES of STRINGS it takes until COUNT has come to what makes WIDTH one more. */
    private static int codesUntil(int form, int k, int width) {
        int goal = form == 1 ? (1 << width) - 1 : 1 << width;
        // COUNT stays FIRST behind the first one.
        return goal - first(form, k) + 1;
    }

    // "behind each CODE of a STRING, but the first one since then, it is one more .. when COUNT has
    // come to 2^WIDTH (in FORM 1 2^WIDTH - 1) it is one more .. A CODE has the WIDTH that is then."
    private static void widthsRise() {
        Due.is("K 2 takes", codesUntil(0, 2, 3), 3);
        Due.is("K 8, FORM 0 takes", codesUntil(0, 8, 9), 255);
        Due.is("K 8, FORM 1 takes", codesUntil(1, 8, 9), 254);
        Due.is("K 8, FORM 2 takes", codesUntil(2, 8, 9), 256);
        for (int form = 0; form <= 2; form++) {
            for (int k = lowestK(form); k <= 8; k++) {
                int takes = codesUntil(form, k, k + 1);
                int ahead = form == 2 ? 0 : 1;
                String name = "FORM " + form + ", K " + k;
                LzwForms x = Make.with(form, k, 12, 0, Make.newPairs(takes + 3, 1 << k));
                Due.is(name + ": told(6)", x.told(6), takes + 3 + 2 * ahead);
                for (int i = takes - 2; i < takes + 3; i++) {
                    Due.is(name + ": WIDTH of STRING " + i, x.code(ahead + i, 1), i < takes ? k + 1 : k + 2);
                }
                if (form == 2) {
                    continue;
                }
                // END has the WIDTH that is then, too.
                x = Make.with(form, k, 12, 0, Make.newPairs(takes - 1, 1 << k));
                Due.is(name + ": END is narrow still", x.code(takes, 1), k + 1);
                x = Make.with(form, k, 12, 0, Make.newPairs(takes, 1 << k));
                Due.is(name + ": END is wide", x.code(takes + 1, 1), k + 2);
                Due.is(name + ": END begins", x.code(takes + 1, 2), (takes + 1) * (k + 1));
                Due.is(name + ": told(7)", x.told(7), (takes + 1) * (k + 1) + k + 2);
            }
        }
    }

    private static void widthsRiseTwice() {
        for (int k = 2; k <= 6; k++) {
            int takes = codesUntil(0, k, k + 2);
            LzwForms x = Make.with(0, k, k + 3, 0, Make.newPairs(takes + 2, 1 << k));
            Due.is("K " + k + ": ahead of the second rise", x.code(takes, 1), k + 2);
            Due.is("K " + k + ": behind it", x.code(takes + 1, 1), k + 3);
        }
        // All of one kind, K 2: COUNT comes to 8, 16 and 32 behind 3, 11 and 27 CODES; 23 are there.
        LzwForms x = Make.with(0, 2, 12, 0, new int[300]);
        Due.is("of a kind: told(6)", x.told(6), 26);
        int[] due = {3, 3, 3, 3, 4, 4, 4, 4, 4, 4, 4, 4, 5, 5, 5, 5, 5, 5, 5, 5, 5, 5, 5, 5, 5, 5};
        for (int i = 0; i < due.length; i++) {
            Due.is("of a kind: WIDTH of " + i, x.code(i, 1), due[i]);
        }
    }

    // "MOST at most"; COUNT is "LAST at most"
    private static void mostIsTheWidestOfAll() {
        for (int[] one : CAN_BE_FULL) {
            int k = one[0];
            int takes = codesUntil(0, k, one[1]);
            LzwForms x = Make.with(0, k, one[1], 0, Make.newPairs(takes + 2, 1 << k));
            for (int i = 0; i < 5; i++) {
                x.symbol(i % 2);
            }
            for (int i = takes - 1; i < x.told(6); i++) {
                Due.is("K " + k + ", MOST " + one[1] + ": WIDTH of " + i, x.code(i, 1), one[1]);
            }
        }
        LzwForms x = Make.with(0, 2, 4, 0, Make.newPairs(16, 4));
        for (int i = 0; i < 204; i++) {
            x.symbol(i * i / 7 % 4);
        }
        int last = x.told(6) - 1;
        for (int i = 4; i <= last; i++) {
            Due.is("K 2, MOST 4: WIDTH of " + i, x.code(i, 1), 4);
        }
        Due.is("K 2, MOST 4: told(7)", x.told(7), 4 * 3 + (last - 3) * 4);
    }

    // "COUNT is FIRST .. behind a CLEAR": the WIDTH of CLEAR and of what comes behind
    private static void widthBehindAClear() {
        for (int k = 2; k <= 6; k++) {
            int takes = codesUntil(0, k, k + 1);
            LzwForms x = Make.with(0, k, 12, takes, Make.newPairs(2 * takes + 1, 1 << k));
            Due.is("K " + k + ": the last ahead of CLEAR", x.code(takes, 1), k + 1);
            Due.is("K " + k + ": CLEAR", x.code(takes + 1, 0), 1 << k);
            Due.is("K " + k + ": CLEAR is wide", x.code(takes + 1, 1), k + 2);
            Due.is("K " + k + ": behind CLEAR", x.code(takes + 2, 1), k + 1);
            Due.is("K " + k + ": the last of the second", x.code(2 * takes + 1, 1), k + 1);
            Due.is("K " + k + ": the second CLEAR", x.code(2 * takes + 2, 1), k + 2);
            if (takes == 3) {
                continue;
            }
            x = Make.with(0, k, 12, takes - 1, Make.newPairs(takes, 1 << k));
            Due.is("K " + k + ": CLEAR is narrow", x.code(takes, 0), 1 << k);
            Due.is("K " + k + ": its WIDTH", x.code(takes, 1), k + 1);
        }
    }

    /** THE TAPE as its bits follow from CODES, WIDTHS and beginnings: the gaps are bits 0. */
    private static void tapeFollows(String name, int form, LzwForms x) {
        Bits bits = new Bits(form);
        int codes = x.told(6);
        for (int i = 0; i < codes; i++) {
            int begin = x.code(i, 2);
            Due.holds(name + ": CODE " + i + " begins behind the one before", begin >= bits.length());
            bits.zeros(begin - bits.length()).code(x.code(i, 0), x.code(i, 1));
        }
        Due.is("6: " + name + ": told(7)", x.told(7), bits.length());
        Due.is("9: " + name + ": write()", x.write(), bits.bytes());
        Due.is("9: " + name + ": told(5)", x.told(5), bits.bytes());
        for (int i = 0; i < bits.bytes(); i++) {
            Due.is("9: " + name + ": octet(" + i + ")", x.octet(i), bits.octet(i));
        }
        Due.is("9: " + name + ": behind the last", x.octet(bits.bytes()), NONE);
    }

    // "in FORMS 0, 2 a byte's lowest bit first, and a CODE'S, in FORM 1 the highest ones"
    private static void bitsOfTheTape() {
        // 256, 1, 257 of nine bits each; in FORM 2 1 alone.
        tapeIs(Make.with(0, 8, 12, 0, 1), 0x00, 0x03, 0x04, 0x04);
        tapeIs(Make.with(1, 8, 12, 0, 1), 0x80, 0x00, 0x60, 0x20);
        tapeIs(Make.with(2, 8, 12, 0, 1), 0x01, 0x00);
        tapeIs(Make.with(2, 8, 12, 0, 128, 1), 0x80, 0x02, 0x00);
        for (int form = 0; form <= 2; form++) {
            tapeFollows("FORM " + form, form, Make.with(form, 8, 12, 0, 1, 1, 1, 128, 255, 128, 255, 254));
        }
        tapeFollows("K 2, WIDTH 5", 0, Make.with(0, 2, 12, 0, Make.newPairs(16, 4)));
        tapeFollows("K 4, WIDTH 6", 0, Make.with(0, 4, 12, 0, Make.newPairs(60, 16)));
    }

    private static void tapeIs(LzwForms x, int... bytes) {
        Due.is("9: by hand: write()", x.write(), bytes.length);
        for (int i = 0; i < bytes.length; i++) {
            Due.is("9: by hand: octet(" + i + ")", x.octet(i), bytes[i]);
        }
    }

    // "bits one behind the other": ten bits from the last bit of a byte on stand in three bytes
    private static void aCodeInThreeBytes() {
        int[] row = Make.newPairs(263, 256);
        LzwForms x = Make.with(1, 8, 12, 0, row);
        Bits bits = new Bits(1).code(256, 9);
        for (int i = 0; i < row.length; i++) {
            bits.code(row[i], i < 254 ? 9 : 10);
        }
        bits.code(257, 10);
        Due.is("7: in three bytes: WIDTH", x.code(255, 1), 10);
        Due.is("7: in three bytes: begins", x.code(255, 2) % 8, 7);
        Due.is("9: in three bytes: write()", x.write(), bits.bytes());
        for (int i = bits.bytes() - 60; i < bits.bytes(); i++) {
            Due.is("9: in three bytes: octet(" + i + ")", x.octet(i), bits.octet(i));
        }
    }

    // "Behind the last CODE the last byte is filled with bits 0."
    private static void lastByteIsFilled() {
        for (int form = 0; form <= 2; form++) {
            for (int length = 0; length <= 17; length++) {
                int[] row = new int[length];
                for (int i = 0; i < length; i++) {
                    row[i] = 255 - i;
                }
                LzwForms x = Make.with(form, 8, 12, 0, row);
                // What stood there before has no say.
                for (int i = 0; i < 30; i++) {
                    x.more(255);
                }
                tapeFollows("FORM " + form + ", " + length + " SYMBOLS", form, x);
            }
        }
        LzwForms x = Make.with(2, 8, 12, 0, 255, 255, 255, 255, 255, 255, 255, 255);
        Due.is("9: four CODES, 36 bits", x.write(), 5);
        Due.is("9: the last four bits", x.octet(4) >> 4, 0);
        x = Make.with(2, 8, 12, 0, Make.counted(8, 256));
        Due.is("6: no bit fills: told(7)", x.told(7), 72);
        Due.is("9: no bit fills: write()", x.write(), 9);
        x = Make.with(0, 7, 9, 0, 1, 2, 3);
        Due.is("6: eight bits a CODE: told(7)", x.told(7), 40);
        tapeIs(x, 128, 1, 2, 3, 129);
    }

    // "ahead of a CODE, if the one before it was CLEAR .. the GROUP before is filled with bits 0 up
    // to eight CODES of that one's WIDTH, and a new one begins"
    private static void groupsBehindClear() {
        for (int clears = 2; clears <= 25; clears++) {
            LzwForms x = Make.with(2, 8, 12, clears, Make.counted(2 * clears + 1, 256));
            String name = "CLEARS " + clears;
            int group = (clears + 1 + 7) / 8 * 72;
            Due.is("7: " + name + ": CLEAR", x.code(clears, 0), 256);
            Due.is("7: " + name + ": CLEAR begins", x.code(clears, 2), 9 * clears);
            Due.is("7: " + name + ": the next begins", x.code(clears + 1, 2), group);
            Due.is("7: " + name + ": the second CLEAR begins", x.code(2 * clears + 1, 2), group + 9 * clears);
            Due.is("7: " + name + ": the last begins", x.code(2 * clears + 2, 2), 2 * group);
            Due.is("6: " + name + ": told(7)", x.told(7), 2 * group + 9);
            tapeFollows(name, 2, x);
        }
    }

    // ".. or had another WIDTH than it": 256 CODES are 32 GROUPS, all full
    private static void groupsBehindAnotherWidth() {
        LzwForms x = Make.with(2, 8, 12, 0, Make.newPairs(256, 256));
        Due.is("6: 256 CODES: told(7)", x.told(7), 256 * 9);
        Due.is("9: 256 CODES: write()", x.write(), 288);
        Due.is("7: the last one's WIDTH", x.code(255, 1), 9);
        x.symbol(5);
        Due.is("7: the next one's WIDTH", x.code(256, 1), 10);
        Due.is("7: the next one begins", x.code(256, 2), 256 * 9);
        Due.is("6: 257 CODES: told(7)", x.told(7), 256 * 9 + 10);
        Due.is("9: 257 CODES: write()", x.write(), 290);
        x.symbol(9);
        Due.is("7: the one behind begins", x.code(257, 2), 256 * 9 + 10);
        // In FORMS 0, 1 nothing is filled: a CODE begins where the one before ends.
        for (int form = 0; form <= 1; form++) {
            x = Make.with(form, 8, 12, 20, Make.counted(100, 256));
            for (int i = 0; i < x.told(6); i++) {
                Due.is("7: FORM " + form + ": CODE " + i + " begins", x.code(i, 2), 9 * i);
            }
        }
    }

    // Promise 6: "the bits of these, with those that fill GROUPS (7)": the last one is not filled
    private static void lastGroupIsNotFilled() {
        for (int length = 1; length <= 20; length++) {
            LzwForms x = Make.with(2, 8, 12, 0, Make.counted(length, 256));
            Due.is("6: " + length + " CODES: told(7)", x.told(7), 9 * length);
            Due.is("9: " + length + " CODES: write()", x.write(), (9 * length + 7) / 8);
        }
        // The CLEARS-th CODE is the last: no CLEAR, and nothing to fill.
        LzwForms x = Make.with(2, 8, 12, 3, 1, 2, 3);
        Due.is("6: no CLEAR at the end: told(7)", x.told(7), 27);
        x.symbol(4);
        Due.is("6: CLEAR, and one more: told(7)", x.told(7), 72 + 9);
    }

    // Promise 7: "NONE: there is none such. OUTSIDE: what."
    private static void codeBounds() {
        for (int form = 0; form <= 2; form++) {
            LzwForms x = Make.with(form, 8, 12, 1, 1, 2);
            int codes = x.told(6);
            Due.is("7: told(6)", codes, form == 2 ? 2 : 4);
            for (int what = 0; what <= 2; what++) {
                for (int i : new int[] {LOW, -1, codes, codes + 1, 451, 452, HIGH}) {
                    Due.is("7: code(" + i + ", " + what + ")", x.code(i, what), NONE);
                }
            }
            for (int what : new int[] {LOW, -1, 3, 4, HIGH}) {
                for (int i : new int[] {LOW, -1, 0, codes - 1, codes, HIGH}) {
                    Due.is("7: code(" + i + ", " + what + ")", x.code(i, what), OUTSIDE);
                }
            }
            Due.is("7: the last begins", x.code(codes - 1, 2), 9 * (codes - 1));
        }
    }

    // Promise 8: "NONE: it is no STRING. OUTSIDE: what."
    private static void stringBounds() {
        for (int form = 0; form <= 2; form++) {
            LzwForms x = Make.with(form, 8, 12, 1, 1, 2);
            int first = first(form, 8);
            for (int number : new int[] {LOW, -1, 256, first - 1, first + 1, 557, 558, 4095, 4096, HIGH}) {
                isNoString("FORM " + form, x, number);
            }
            for (int what : new int[] {LOW, -1, 3, 4, HIGH}) {
                for (int number : new int[] {LOW, -1, 0, 255, 256, first, first + 1, HIGH}) {
                    Due.is("8: string(" + number + ", " + what + ")", x.string(number, what), OUTSIDE);
                }
            }
            isString("FORM " + form, x, first, 1, 2, 2);
        }
    }

    // Promise 8: "as the TABLE is when DATA is PACKED"; promise 6: "has at the end (8)"
    private static void stringsOfTheLastTable() {
        LzwForms x = Make.with(0, 8, 12, 3, 1, 2, 3, 4);
        Due.is("6: behind a CLEAR: told(8)", x.told(8), 0);
        isNoString("behind a CLEAR", x, 258);
        x.symbol(5);
        Due.is("6: and one: told(8)", x.told(8), 1);
        isString("and one", x, 258, 4, 5, 2);
        isNoString("and one", x, 259);
        x.empty();
        isNoString("behind empty()", x, 258);
        x.setting(2, 8, 12, 0);
        x.symbol(8);
        x.symbol(9);
        isString("another SETTING", x, 257, 8, 9, 2);
        isNoString("another SETTING", x, 258);
        x.empty();
        x.setting(0, 2, 4, 0);
        x.symbol(3);
        x.symbol(3);
        isString("K 2", x, 6, 3, 3, 2);
        isNoString("K 2", x, 7);
        isNoString("K 2", x, 257);
    }

    // Promise 9: "THE TAPE is DATA, PACKED: how many bytes."
    private static void writeOfNothing() {
        int[][] due = {{0, 3, 2}, {128, 64, 64}, {}};
        for (int form = 0; form <= 2; form++) {
            LzwForms x = Make.with(form, 8, 12, 1);
            x.more(99);
            x.more(99);
            x.more(99);
            x.more(99);
            Due.is("9: of nothing, FORM " + form, x.write(), due[form].length);
            Due.is("9: of nothing, told(5)", x.told(5), due[form].length);
            for (int i = 0; i < due[form].length; i++) {
                Due.is("9: of nothing, octet(" + i + ")", x.octet(i), due[form][i]);
            }
        }
    }

    // Promise 9: "ROOM: they would be more than 400."
    private static void writeJust400() {
        // K 7, eight bits a CODE: 299 SYMBOLS, 99 CLEARS and the first, END are just 400 bytes.
        LzwForms x = Make.with(0, 7, 9, 3, Make.counted(299, 128));
        Due.is("6: 3200 bits", x.told(7), 3200);
        Due.is("9: 3200 bits", x.write(), 400);
        Due.is("9: the last byte is END", x.octet(399), 129);
        x.symbol(5);
        Due.is("6: 3208 bits", x.told(7), 3208);
        roomIsMissing("3208 bits", x, 129);
        // 355 and 356 CODES of nine bits: 3195 bits are 400 bytes with the last one filled.
        for (int form = 0; form <= 1; form++) {
            x = Make.with(form, 8, 12, 3, Make.counted(265, 256));
            Due.is("6: 3195 bits", x.told(7), 3195);
            Due.is("9: 3195 bits", x.write(), 400);
            int last = x.octet(399);
            x.symbol(9);
            Due.is("6: 3204 bits", x.told(7), 3204);
            roomIsMissing("3204 bits, FORM " + form, x, last);
        }
        // 44 GROUPS of six SYMBOLS and a CLEAR, and three SYMBOLS more.
        x = Make.with(2, 8, 12, 6, Make.counted(267, 256));
        Due.is("6: 3195 bits, FORM 2", x.told(7), 3195);
        Due.is("9: 3195 bits, FORM 2", x.write(), 400);
        int last = x.octet(399);
        x.symbol(99);
        Due.is("6: 3204 bits, FORM 2", x.told(7), 3204);
        roomIsMissing("3204 bits, FORM 2", x, last);
    }

    private static void roomIsMissing(String name, LzwForms x, int lastByte) {
        int symbols = x.told(0);
        Due.is("9: " + name, x.write(), ROOM);
        Due.is("9: " + name + ": told(5)", x.told(5), 400);
        Due.is("9: " + name + ": octet(399)", x.octet(399), lastByte);
        Due.is("9: " + name + ": told(0)", x.told(0), symbols);
        Due.is("9: " + name + ": read()", x.read(), symbols - 1);
    }

    private static void writeTakesThePlaceOfTheTape() {
        LzwForms x = Make.with(0, 8, 12, 1, 1, 2, 3, 4, 5, 6);
        Due.is("9: longer", x.write(), 9);
        x.empty();
        x.symbol(1);
        Due.is("9: shorter", x.write(), 4);
        Due.is("9: shorter: told(5)", x.told(5), 4);
        Due.is("9: shorter: octet(4)", x.octet(4), NONE);
        Due.is("9: again", x.write(), 4);
        Due.is("9: DATA stays", x.told(0), 1);
    }

    // The most CODES that there can be: all of them can be asked for
    private static void mostCodesOfAll() {
        LzwForms x = Make.with(0, 8, 12, 2, Make.counted(300, 256));
        Due.is("6: told(6)", x.told(6), 451);
        Due.is("7: the last", x.code(450, 0), 257);
        Due.is("7: the last begins", x.code(450, 2), 4050);
        Due.is("7: behind the last", x.code(451, 0), NONE);
        Due.is("6: told(7)", x.told(7), 4059);
        Due.is("9: write()", x.write(), ROOM);
        x = Make.with(2, 8, 12, 2, Make.counted(300, 256));
        Due.is("6: FORM 2: told(6)", x.told(6), 449);
        Due.is("7: FORM 2: the last begins", x.code(448, 2), 149 * 72 + 9);
        Due.is("6: FORM 2: told(7)", x.told(7), 149 * 72 + 18);
        Due.is("9: FORM 2: write()", x.write(), ROOM);
    }
}
