/** Objects and rows of SYMBOLS that several tests begin with. */
final class Make {
    private Make() {
    }

    static LzwForms with(int form, int k, int most, int clears, int... symbols) {
        LzwForms x = new LzwForms();
        Due.is("setting", x.setting(form, k, most, clears), 1);
        for (int v : symbols) {
            x.symbol(v);
        }
        return x;
    }

    /** 0, 1, 2 .. one behind the other, beginning anew behind the highest SYMBOL. */
    static int[] counted(int length, int kinds) {
        int[] row = new int[length];
        for (int i = 0; i < length; i++) {
            row[i] = i % kinds;
        }
        return row;
    }

    /**
     * A row in which no two neighbours stand together twice, so that each SYMBOL is a CODE of its
     * own. Taking the highest SYMBOL that is still free goes on until all pairs have been used.
     */
    static int[] newPairs(int length, int kinds) {
        boolean[] used = new boolean[kinds * kinds];
        int[] row = new int[length];
        for (int i = 1; i < length; i++) {
            int next = kinds - 1;
            while (used[row[i - 1] * kinds + next]) {
                next--;
            }
            used[row[i - 1] * kinds + next] = true;
            row[i] = next;
        }
        return row;
    }

    /** An object whose DATA are 300 times the SYMBOL 9, in few calls: they are read. */
    static LzwForms with300(int form, int clears) {
        LzwForms x = with(form, 8, 12, clears);
        Bits bits = new Bits(form);
        if (form != 2) {
            bits.code(256, 9);
        }
        bits.code(9, 9);
        // 1 + 2 + .. + 24 = 300: each CODE is the very NUMBER that it makes.
        for (int i = 0; i < 23; i++) {
            bits.code((form == 2 ? 257 : 258) + i, 9);
        }
        if (form != 2) {
            bits.code(257, 9);
        }
        bits.putOn(x);
        Due.is("300 SYMBOLS", x.read(), 300);
        return x;
    }
}
