/**
 * Rows of bytes packed by codes for strings that came before, in three published forms, and the
 * way back. The words in capitals in the comments are those of the document.
 */
public final class LzwForms {
    public static final int NONE = -1, OUTSIDE = -2, STATE = -3, ROOM = -4;

    private static final int MOST_SYMBOLS = 300;
    private static final int MOST_BYTES = 400;
    private static final int MOST_BITS = 8 * MOST_BYTES;
    private static final int GROUP = 8;

    // CLEARS 2 asks for the most CODES: a CLEAR behind every second SYMBOL, the first CLEAR, END.
    private static final int MOST_CODES = MOST_SYMBOLS + MOST_SYMBOLS / 2 + 2;

    // The highest FIRST there is; no SYMBOL of DATA brings more than one STRING to the TABLE.
    private static final int MOST_NUMBERS = 258 + MOST_SYMBOLS;

    private static final int NO_FAULT = 0;
    private static final int BITS_END = 1;
    private static final int NO_FIRST_CLEAR = 2;
    private static final int NO_SYMBOL_FIRST = 3;
    private static final int ABOVE_COUNT = 4;
    private static final int TOO_MANY = 5;
    private static final int NOT_ZERO = 6;

    private final Rules rules;
    private final Row data;
    private final Tape tape;
    private final Packer packer;
    private final Unpacker unpacker;

    // Whether the packer shows DATA and the SETTING as they are now.
    private boolean packerIsFresh;
    private int faultBits;

    public LzwForms() {
        Rules ownRules = new Rules();
        Tape ownTape = new Tape(ownRules);
        rules = ownRules;
        data = new Row(MOST_SYMBOLS);
        tape = ownTape;
        packer = new Packer(ownRules);
        unpacker = new Unpacker(ownRules, ownTape);
        packerIsFresh = false;
        faultBits = NONE;
    }

    public int setting(int form, int k, int most, int clears) {
        if (!Rules.allow(form, k, most, clears)) {
            return OUTSIDE;
        }
        if (data.size() > 0) {
            return STATE;
        }
        rules.become(form, k, most, clears);
        packerIsFresh = false;
        return 1;
    }

    public int symbol(int v) {
        if (!rules.isSymbol(v)) {
            return OUTSIDE;
        }
        if (!data.add(v)) {
            return ROOM;
        }
        packerIsFresh = false;
        return data.size();
    }

    public int empty() {
        int had = data.size();
        data.shrinkTo(0);
        packerIsFresh = false;
        return had;
    }

    public int at(int i) {
        return data.get(i);
    }

    public int told(int what) {
        switch (what) {
            case 0: return data.size();
            case 1: return rules.form;
            case 2: return rules.k;
            case 3: return rules.most;
            case 4: return rules.clears;
            case 5: return tape.bytes.size();
            case 6: return packedData().codes.size();
            case 7: return packedData().bits;
            case 8: return packedData().table.strings;
            case 9: return packedData().clearCodes;
            default: return OUTSIDE;
        }
    }

    public int code(int i, int what) {
        switch (what) {
            case 0: return packedData().codes.get(i);
            case 1: return packedData().widths.get(i);
            case 2: return packedData().begins.get(i);
            default: return OUTSIDE;
        }
    }

    public int string(int number, int what) {
        switch (what) {
            case 0: return packedData().table.headOf(number);
            case 1: return packedData().table.tailOf(number);
            case 2: return packedData().table.lengthOf(number);
            default: return OUTSIDE;
        }
    }

    public int write() {
        Packer packed = packedData();
        int needed = (packed.bits + 7) / 8;
        if (needed > MOST_BYTES) {
            return ROOM;
        }
        tape.blank(needed);
        for (int i = 0; i < packed.codes.size(); i++) {
            tape.putCode(packed.codes.get(i), packed.widths.get(i), packed.begins.get(i));
        }
        return needed;
    }

    public int more(int v) {
        if (v < 0 || v > 255) {
            return OUTSIDE;
        }
        return tape.bytes.add(v) ? tape.bytes.size() : ROOM;
    }

    public int cut(int n) {
        int had = tape.bytes.size();
        if (n < 0 || n > had) {
            return OUTSIDE;
        }
        tape.bytes.shrinkTo(n);
        return had - n;
    }

    public int flip(int i, int j) {
        if (j < 0 || j > 7) {
            return OUTSIDE;
        }
        int before = tape.bytes.get(i);
        if (before == NONE) {
            return NONE;
        }
        int turned = before ^ (1 << j);
        tape.bytes.set(i, turned);
        return turned;
    }

    public int octet(int i) {
        return tape.bytes.get(i);
    }

    public int read() {
        int met = unpacker.unpack();
        if (met != NO_FAULT) {
            faultBits = unpacker.bitsRead;
            return -10 - met;
        }
        faultBits = NONE;
        data.becomeLike(unpacker.symbols);
        packerIsFresh = false;
        return data.size();
    }

    public int fault() {
        return faultBits;
    }

    private Packer packedData() {
        if (!packerIsFresh) {
            packer.pack(data);
            packerIsFresh = true;
        }
        return packer;
    }

    /** A row of numbers, none below 0, with an end to its room; it looks at each index itself. */
    private static final class Row {
        private final int[] cells;
        private int size;

        Row(int room) {
            cells = new int[room < 0 ? 0 : room];
            size = 0;
        }

        int size() {
            return size;
        }

        boolean add(int v) {
            if (size >= cells.length) {
                return false;
            }
            cells[size] = v;
            size++;
            return true;
        }

        int get(int i) {
            return i >= 0 && i < size ? cells[i] : NONE;
        }

        void set(int i, int v) {
            if (i >= 0 && i < size) {
                cells[i] = v;
            }
        }

        void shrinkTo(int n) {
            if (n >= 0 && n < size) {
                size = n;
            }
        }

        void becomeLike(Row other) {
            size = 0;
            for (int i = 0; i < other.size; i++) {
                add(other.get(i));
            }
        }
    }

    /** The SETTING, and what follows from it alone. */
    private static final class Rules {
        private int form;
        private int k;
        private int most;
        private int clears;
        private boolean hasEnd;
        private boolean inGroups;
        private boolean highestBitFirst;
        private int clearCode;
        private int endCode;
        private int firstNumber;
        private int lastNumber;

        // 1 in FORM 1, which comes to LAST, and to each next WIDTH, one NUMBER sooner.
        private int early;

        Rules() {
            become(0, 8, 12, 1);
        }

        static boolean allow(int form, int k, int most, int clears) {
            if (form < 0 || form > 2 || k < 2 || k > 8 || (form != 0 && k != 8)) {
                return false;
            }
            return most >= k + 2 && most <= 12 && clears >= 0 && clears <= 100;
        }

        void become(int newForm, int newK, int newMost, int newClears) {
            form = newForm;
            k = newK;
            most = newMost;
            clears = newClears;
            hasEnd = form != 2;
            inGroups = form == 2;
            highestBitFirst = form == 1;
            clearCode = 1 << k;
            endCode = hasEnd ? clearCode + 1 : NONE;
            firstNumber = hasEnd ? clearCode + 2 : clearCode + 1;
            early = form == 1 ? 1 : 0;
            lastNumber = (1 << most) - early;
        }

        boolean isSymbol(int number) {
            return number >= 0 && number < clearCode;
        }

        int countThatWidens(int width) {
            return (1 << width) - early;
        }
    }

    /** COUNT, WIDTH and the GROUPS: they go on alike with each CODE packed and each CODE read. */
    private static final class Pace {
        private final Rules rules;
        private int count;
        private int width;
        private boolean noStringYet;
        private int codesInGroup;
        private int groupWidth;
        private boolean behindClear;

        Pace(Rules rules) {
            this.rules = rules;
        }

        void begin() {
            beginTable();
            codesInGroup = 0;
            groupWidth = width;
            behindClear = false;
        }

        int bitsThatFill() {
            if (!rules.inGroups || codesInGroup == 0 || !groupEnds()) {
                return 0;
            }
            return (GROUP - codesInGroup) * groupWidth;
        }

        void pass(int code) {
            if (groupEnds()) {
                codesInGroup = 0;
            }
            codesInGroup = (codesInGroup + 1) % GROUP;
            groupWidth = width;
            behindClear = code == rules.clearCode;
            if (behindClear) {
                beginTable();
            } else if (code != rules.endCode) {
                passString();
            }
        }

        private boolean groupEnds() {
            return behindClear || groupWidth != width;
        }

        private void beginTable() {
            count = rules.firstNumber;
            width = rules.k + 1;
            noStringYet = true;
        }

        private void passString() {
            if (noStringYet) {
                noStringYet = false;
                return;
            }
            count = Math.min(count + 1, rules.lastNumber);
            if (count >= rules.countThatWidens(width)) {
                width = Math.min(width + 1, rules.most);
            }
        }
    }

    /**
     * The TABLE while DATA is PACKED. A string stands in the slot of its NUMBER less FIRST; those
     * that lengthen the same string by one SYMBOL are chained, so that finding one is short.
     */
    private static final class Table {
        private final Rules rules;
        private final int[] heads;
        private final int[] tails;
        private final int[] lengths;
        private final int[] nextInChain;
        private final int[] chainOf;
        private int strings;

        Table(Rules rules) {
            this.rules = rules;
            heads = new int[MOST_SYMBOLS];
            tails = new int[MOST_SYMBOLS];
            lengths = new int[MOST_SYMBOLS];
            nextInChain = new int[MOST_SYMBOLS];
            chainOf = new int[MOST_NUMBERS];
            for (int i = 0; i < chainOf.length; i++) {
                chainOf[i] = NONE;
            }
            strings = 0;
        }

        // Goes by the heads and not by FIRST: the SETTING may have changed since they came.
        void wipe() {
            for (int slot = 0; slot < strings && slot < heads.length; slot++) {
                int head = heads[slot];
                if (head >= 0 && head < chainOf.length) {
                    chainOf[head] = NONE;
                }
            }
            strings = 0;
        }

        boolean isFull() {
            return rules.firstNumber + strings >= rules.lastNumber;
        }

        void addLonger(int number, int symbol) {
            int length = lengthOf(number);
            if (isFull() || strings >= heads.length || length == NONE) {
                return;
            }
            if (number < 0 || number >= chainOf.length) {
                return;
            }
            heads[strings] = number;
            tails[strings] = symbol;
            lengths[strings] = length + 1;
            nextInChain[strings] = chainOf[number];
            chainOf[number] = strings;
            strings++;
        }

        /** The NUMBER of the STRING of a NUMBER with one SYMBOL more; NONE. */
        int longer(int number, int symbol) {
            if (number < 0 || number >= chainOf.length) {
                return NONE;
            }
            int slot = chainOf[number];
            for (int tries = 0; tries < strings && slot >= 0 && slot < tails.length; tries++) {
                if (tails[slot] == symbol) {
                    return rules.firstNumber + slot;
                }
                slot = nextInChain[slot];
            }
            return NONE;
        }

        int headOf(int number) {
            int slot = slotOf(number);
            return slot == NONE ? NONE : heads[slot];
        }

        int tailOf(int number) {
            if (rules.isSymbol(number)) {
                return number;
            }
            int slot = slotOf(number);
            return slot == NONE ? NONE : tails[slot];
        }

        int lengthOf(int number) {
            if (rules.isSymbol(number)) {
                return 1;
            }
            int slot = slotOf(number);
            return slot == NONE ? NONE : lengths[slot];
        }

        private int slotOf(int number) {
            int first = rules.firstNumber;
            return number >= first && number < first + strings ? number - first : NONE;
        }
    }

    /** DATA, PACKED: its CODES, and the TABLE as it is at the end. */
    private static final class Packer {
        private final Rules rules;
        private final Pace pace;
        private final Table table;
        private final Row codes;
        private final Row widths;
        private final Row begins;
        private int bits;
        private int clearCodes;
        private int stringsSinceClear;

        Packer(Rules rules) {
            this.rules = rules;
            pace = new Pace(rules);
            table = new Table(rules);
            codes = new Row(MOST_CODES);
            widths = new Row(MOST_CODES);
            begins = new Row(MOST_CODES);
        }

        void pack(Row data) {
            begin();
            if (rules.hasEnd) {
                putClear();
            }
            int next = 0;
            for (int turn = 0; turn < data.size() && next < data.size(); turn++) {
                int number = longestFrom(data, next);
                next += table.lengthOf(number);
                put(number);
                stringsSinceClear++;
                if (next < data.size()) {
                    table.addLonger(number, data.get(next));
                    if (clearIsDue()) {
                        putClear();
                    }
                }
            }
            if (rules.hasEnd) {
                put(rules.endCode);
            }
        }

        private void begin() {
            pace.begin();
            table.wipe();
            codes.shrinkTo(0);
            widths.shrinkTo(0);
            begins.shrinkTo(0);
            bits = 0;
            clearCodes = 0;
            stringsSinceClear = 0;
        }

        private int longestFrom(Row data, int from) {
            int number = data.get(from);
            for (int i = from + 1; i < data.size(); i++) {
                int longer = table.longer(number, data.get(i));
                if (longer == NONE) {
                    return number;
                }
                number = longer;
            }
            return number;
        }

        private boolean clearIsDue() {
            if (rules.clears == 1) {
                return table.isFull();
            }
            return rules.clears > 1 && stringsSinceClear == rules.clears;
        }

        private void putClear() {
            put(rules.clearCode);
            table.wipe();
            clearCodes++;
            stringsSinceClear = 0;
        }

        private void put(int code) {
            bits += pace.bitsThatFill();
            codes.add(code);
            widths.add(pace.width);
            begins.add(bits);
            bits += pace.width;
            pace.pass(code);
        }
    }

    /** THE TAPE, whose bits stand one behind the other in the order of the FORM. */
    private static final class Tape {
        private final Rules rules;
        private final Row bytes;

        Tape(Rules rules) {
            this.rules = rules;
            bytes = new Row(MOST_BYTES);
        }

        int bits() {
            return 8 * bytes.size();
        }

        void blank(int length) {
            bytes.shrinkTo(0);
            for (int i = 0; i < length; i++) {
                bytes.add(0);
            }
        }

        int bit(int position) {
            return (bytes.get(position >> 3) >> placeInByte(position)) & 1;
        }

        void putCode(int code, int width, int begin) {
            for (int i = 0; i < width; i++) {
                int position = begin + i;
                int bit = (code >> placeInCode(i, width)) & 1;
                int before = bytes.get(position >> 3);
                bytes.set(position >> 3, before | (bit << placeInByte(position)));
            }
        }

        /** Which bit of a CODE (0 the lowest) comes as its i-th. */
        int placeInCode(int i, int width) {
            return rules.highestBitFirst ? width - 1 - i : i;
        }

        private int placeInByte(int position) {
            return rules.highestBitFirst ? 7 - (position & 7) : position & 7;
        }
    }

    /**
     * THE TAPE, read. Each STRING of its table is a piece of the SYMBOLS given so far: the STRING
     * before and the one SYMBOL that comes behind it.
     */
    private static final class Unpacker {
        private final Rules rules;
        private final Tape tape;
        private final Pace pace;
        private final Row symbols;
        private final int[] starts;
        private final int[] lengths;
        private int startBefore;
        private int lengthBefore;
        private int bitsRead;
        private int codesRead;

        Unpacker(Rules rules, Tape tape) {
            this.rules = rules;
            this.tape = tape;
            pace = new Pace(rules);
            symbols = new Row(MOST_SYMBOLS);
            starts = new int[MOST_SYMBOLS];
            lengths = new int[MOST_SYMBOLS];
        }

        /** The FAULT that is met, or NO_FAULT: then the symbols are what THE TAPE is read as. */
        int unpack() {
            begin();
            for (int turn = 0; turn <= MOST_BITS; turn++) {
                int fill = pace.bitsThatFill();
                if (rules.inGroups && bitsLeft() < fill + pace.width) {
                    return zerosUpTo(tape.bits());
                }
                if (zerosUpTo(bitsRead + fill) != NO_FAULT) {
                    return NOT_ZERO;
                }
                int code = nextCode();
                if (code == NONE) {
                    return BITS_END;
                }
                int met = take(code);
                if (met != NO_FAULT) {
                    return met;
                }
                if (code == rules.endCode) {
                    return closeLastByte();
                }
            }
            return BITS_END;
        }

        private void begin() {
            pace.begin();
            symbols.shrinkTo(0);
            startBefore = 0;
            lengthBefore = 0;
            bitsRead = 0;
            codesRead = 0;
        }

        private int bitsLeft() {
            return tape.bits() - bitsRead;
        }

        private int nextBit() {
            int bit = tape.bit(bitsRead);
            bitsRead++;
            return bit;
        }

        private int zerosUpTo(int position) {
            for (int i = bitsRead; i < position; i++) {
                if (nextBit() != 0) {
                    return NOT_ZERO;
                }
            }
            return NO_FAULT;
        }

        private int closeLastByte() {
            int met = zerosUpTo((bitsRead + 7) / 8 * 8);
            return met == NO_FAULT && bitsLeft() > 0 ? NOT_ZERO : met;
        }

        private int nextCode() {
            int code = 0;
            for (int i = 0; i < pace.width; i++) {
                if (bitsLeft() <= 0) {
                    return NONE;
                }
                code |= nextBit() << tape.placeInCode(i, pace.width);
            }
            codesRead++;
            return code;
        }

        private int take(int code) {
            boolean isClear = code == rules.clearCode;
            if (codesRead == 1 && rules.hasEnd && !isClear) {
                return NO_FIRST_CLEAR;
            }
            int met = isClear || code == rules.endCode ? NO_FAULT : takeString(code);
            if (met == NO_FAULT) {
                pace.pass(code);
            }
            return met;
        }

        private int takeString(int number) {
            if (pace.noStringYet) {
                if (number >= rules.firstNumber) {
                    return NO_SYMBOL_FIRST;
                }
            } else {
                if (isAboveCount(number)) {
                    return ABOVE_COUNT;
                }
                makeString();
            }
            return give(number);
        }

        private boolean isAboveCount(int number) {
            int last = rules.lastNumber;
            return number > pace.count || (pace.count == last && number >= last);
        }

        // Its last SYMBOL is not given yet: it comes as the first one of the CODE that makes it.
        private void makeString() {
            int slot = pace.count - rules.firstNumber;
            if (pace.count < rules.lastNumber && slot >= 0 && slot < starts.length) {
                starts[slot] = startBefore;
                lengths[slot] = lengthBefore + 1;
            }
        }

        private int give(int number) {
            int here = symbols.size();
            int slot = number - rules.firstNumber;
            boolean isOfTable = slot >= 0 && slot < starts.length;
            int length = isOfTable ? lengths[slot] : 1;
            if (here + length > MOST_SYMBOLS) {
                return TOO_MANY;
            }
            for (int i = 0; i < length; i++) {
                symbols.add(isOfTable ? symbols.get(starts[slot] + i) : number);
            }
            startBefore = here;
            lengthBefore = length;
            return NO_FAULT;
        }
    }
}
