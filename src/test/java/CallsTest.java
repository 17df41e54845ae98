/** The calls that hold DATA, the SETTING and THE TAPE: promises 1 to 6 and 10 to 13. */
public final class CallsTest {
    private static final int NONE = LzwForms.NONE;
    private static final int OUTSIDE = LzwForms.OUTSIDE;
    private static final int STATE = LzwForms.STATE;
    private static final int ROOM = LzwForms.ROOM;
    private static final int LOW = Integer.MIN_VALUE;
    private static final int HIGH = Integer.MAX_VALUE;

    public static void main(String[] args) {
        newObject();
        settingBounds();
        settingState();
        symbolBoundsAndRoom();
        emptyAndAt();
        told();
        moreAndOctet();
        cut();
        flip();
        refusalsChangeNothing();
        Due.end();
    }

    private static void isSetting(LzwForms x, String when, int form, int k, int most, int clears) {
        Due.is("told(1) " + when, x.told(1), form);
        Due.is("told(2) " + when, x.told(2), k);
        Due.is("told(3) " + when, x.told(3), most);
        Due.is("told(4) " + when, x.told(4), clears);
    }

    private static void newObject() {
        LzwForms x = new LzwForms();
        Due.is("1: told(0)", x.told(0), 0);
        Due.is("1: told(5)", x.told(5), 0);
        Due.is("1: at(0)", x.at(0), NONE);
        Due.is("1: octet(0)", x.octet(0), NONE);
        Due.is("1: fault()", x.fault(), NONE);
        Due.is("1: empty()", x.empty(), 0);
        isSetting(x, "at first", 0, 8, 12, 1);
        LzwForms other = new LzwForms();
        x.symbol(5);
        x.more(5);
        Due.is("1: told(0) of another object", other.told(0), 0);
        Due.is("1: told(5) of another object", other.told(5), 0);
    }

    private static void settingBounds() {
        LzwForms x = new LzwForms();
        int[] somewhere = {LOW, -1, 0, 1, 2, 3, 4, 5, 7, 8, 9, 10, 11, 12, 13, 99, 100, 101, HIGH};
        int calls = 0;
        for (int form : new int[] {LOW, -1, 0, 1, 2, 3, HIGH}) {
            for (int k : new int[] {LOW, 1, 2, 7, 8, 9, HIGH}) {
                for (int most : somewhere) {
                    for (int clears : new int[] {LOW, -1, 0, 1, 2, 100, 101, HIGH}) {
                        if (++calls % 500 == 0) {
                            x = new LzwForms();
                        }
                        boolean fits = form >= 0 && form <= 2 && (form == 0 ? k >= 2 && k <= 8 : k == 8)
                            && most <= 12 && most - 2L >= k && clears >= 0 && clears <= 100;
                        String call = "2: setting(" + form + ", " + k + ", " + most + ", " + clears + ")";
                        Due.is(call, x.setting(form, k, most, clears), fits ? 1 : OUTSIDE);
                    }
                }
            }
        }
    }

    private static void settingState() {
        LzwForms x = new LzwForms();
        x.more(77);
        Due.is("2: setting with bytes on THE TAPE", x.setting(0, 3, 6, 7), 1);
        isSetting(x, "after setting(0, 3, 6, 7)", 0, 3, 6, 7);
        Due.is("2: THE TAPE stays", x.octet(0), 77);
        x.symbol(7);
        Due.is("2: STATE", x.setting(1, 8, 12, 0), STATE);
        Due.is("2: OUTSIDE ahead of STATE", x.setting(1, 7, 12, 0), OUTSIDE);
        isSetting(x, "after STATE and OUTSIDE", 0, 3, 6, 7);
        Due.is("2: DATA stays", x.told(0), 1);
        x.empty();
        Due.is("2: setting with DATA empty again", x.setting(1, 8, 11, 0), 1);
        isSetting(x, "after setting(1, 8, 11, 0)", 1, 8, 11, 0);
    }

    private static void symbolBoundsAndRoom() {
        for (int k = 2; k <= 8; k++) {
            LzwForms x = new LzwForms();
            x.setting(0, k, 12, 1);
            Due.is("3: symbol(2^K)", x.symbol(1 << k), OUTSIDE);
            Due.is("3: symbol(-1)", x.symbol(-1), OUTSIDE);
            Due.is("3: symbol(LOW)", x.symbol(LOW), OUTSIDE);
            Due.is("3: symbol(HIGH)", x.symbol(HIGH), OUTSIDE);
            for (int i = 1; i <= 300; i++) {
                Due.is("3: symbol " + i, x.symbol(i % (1 << k)), i);
            }
            Due.is("3: the 301st", x.symbol(0), ROOM);
            Due.is("3: OUTSIDE ahead of ROOM", x.symbol(1 << k), OUTSIDE);
            Due.is("3: told(0) stays", x.told(0), 300);
            Due.is("3: at(299) stays", x.at(299), 300 % (1 << k));
            Due.is("3: at(300)", x.at(300), NONE);
        }
    }

    private static void emptyAndAt() {
        LzwForms x = new LzwForms();
        x.more(9);
        x.symbol(255);
        x.symbol(0);
        Due.is("5: at(0)", x.at(0), 255);
        Due.is("5: at(1)", x.at(1), 0);
        Due.is("5: at(2)", x.at(2), NONE);
        Due.is("5: at(-1)", x.at(-1), NONE);
        Due.is("5: at(LOW)", x.at(LOW), NONE);
        Due.is("5: at(HIGH)", x.at(HIGH), NONE);
        Due.is("4: empty()", x.empty(), 2);
        Due.is("4: at(0) then", x.at(0), NONE);
        Due.is("4: told(0) then", x.told(0), 0);
        Due.is("4: THE TAPE stays", x.told(5), 1);
        Due.is("4: empty() again", x.empty(), 0);
    }

    private static void told() {
        LzwForms x = new LzwForms();
        for (int what : new int[] {LOW, -1, 10, 11, HIGH}) {
            Due.is("6: told(" + what + ")", x.told(what), OUTSIDE);
        }
        x.symbol(1);
        x.symbol(2);
        x.more(3);
        Due.is("6: told(0)", x.told(0), 2);
        Due.is("6: told(5)", x.told(5), 1);
        Due.is("6: told(6)", x.told(6), 4);
        Due.is("6: told(7)", x.told(7), 36);
        Due.is("6: told(8)", x.told(8), 1);
        Due.is("6: told(9)", x.told(9), 1);
        x.empty();
        Due.is("6: told(6) of empty DATA", x.told(6), 2);
        Due.is("6: told(7) of empty DATA", x.told(7), 18);
        Due.is("6: told(8) of empty DATA", x.told(8), 0);
        x.setting(2, 8, 12, 1);
        Due.is("6: told(6) of empty DATA, FORM 2", x.told(6), 0);
        Due.is("6: told(7) of empty DATA, FORM 2", x.told(7), 0);
        Due.is("6: told(9) of empty DATA, FORM 2", x.told(9), 0);
        Due.is("9: write() of empty DATA, FORM 2", x.write(), 0);
        Due.is("9: THE TAPE then", x.told(5), 0);
    }

    private static void moreAndOctet() {
        LzwForms x = new LzwForms();
        for (int v : new int[] {LOW, -1, 256, HIGH}) {
            Due.is("10: more(" + v + ")", x.more(v), OUTSIDE);
        }
        for (int i = 1; i <= 400; i++) {
            Due.is("10: byte " + i, x.more(i % 256), i);
        }
        Due.is("10: the 401st", x.more(0), ROOM);
        Due.is("10: OUTSIDE ahead of ROOM", x.more(256), OUTSIDE);
        Due.is("10: told(5)", x.told(5), 400);
        Due.is("13: octet(0)", x.octet(0), 1);
        Due.is("13: octet(254)", x.octet(254), 255);
        Due.is("13: octet(399)", x.octet(399), 400 - 256);
        for (int i : new int[] {LOW, -1, 400, HIGH}) {
            Due.is("13: octet(" + i + ")", x.octet(i), NONE);
        }
    }

    private static void cut() {
        LzwForms x = new LzwForms();
        Due.is("11: cut(0) of nothing", x.cut(0), 0);
        for (int i = 0; i < 10; i++) {
            x.more(i);
        }
        for (int n : new int[] {LOW, -1, 11, HIGH}) {
            Due.is("11: cut(" + n + ")", x.cut(n), OUTSIDE);
        }
        Due.is("11: cut(10)", x.cut(10), 0);
        Due.is("11: cut(4)", x.cut(4), 6);
        Due.is("11: octet(3) stays", x.octet(3), 3);
        Due.is("11: octet(4) went", x.octet(4), NONE);
        Due.is("11: cut(5)", x.cut(5), OUTSIDE);
        Due.is("11: more() behind a cut", x.more(200), 5);
        Due.is("11: octet(4)", x.octet(4), 200);
        Due.is("11: cut(0)", x.cut(0), 5);
        Due.is("11: told(5)", x.told(5), 0);
    }

    private static void flip() {
        LzwForms x = new LzwForms();
        x.more(0);
        x.more(255);
        for (int j = 0; j < 8; j++) {
            Due.is("12: flip(0, " + j + ")", x.flip(0, j), (2 << j) - 1);
        }
        Due.is("12: flip(1, 7)", x.flip(1, 7), 127);
        Due.is("12: octet(1)", x.octet(1), 127);
        Due.is("12: flip back", x.flip(1, 7), 255);
        for (int j : new int[] {LOW, -1, 8, HIGH}) {
            Due.is("12: flip(0, " + j + ")", x.flip(0, j), OUTSIDE);
            Due.is("12: flip(2, " + j + ")", x.flip(2, j), OUTSIDE);
        }
        for (int i : new int[] {LOW, -1, 2, HIGH}) {
            Due.is("12: flip(" + i + ", 0)", x.flip(i, 0), NONE);
        }
        Due.is("12: octet(0) stays", x.octet(0), 255);
        x.setting(1, 8, 12, 1);
        Due.is("12: bit 0 is the lowest in FORM 1, too", x.flip(0, 0), 254);
    }

    private static void refusalsChangeNothing() {
        LzwForms x = new LzwForms();
        x.symbol(1);
        x.more(2);
        x.symbol(256);
        x.more(256);
        x.cut(2);
        x.flip(0, 8);
        x.flip(1, 0);
        x.setting(0, 8, 9, 1);
        x.told(10);
        Due.is("told(0) after refusals", x.told(0), 1);
        Due.is("at(0) after refusals", x.at(0), 1);
        Due.is("told(5) after refusals", x.told(5), 1);
        Due.is("octet(0) after refusals", x.octet(0), 2);
    }
}
