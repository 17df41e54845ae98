import java.util.ArrayList;
import java.util.List;
import java.util.Random;

/**
 * Long runs of calls with fixed seeds, each answer held against the model's: all promises, with
 * tapes that were written, spoilt, made of CODES in any order, or of bytes by chance.
 */
public final class ModelTest {
    private static final int MOST_CALLS = 512;

    private final Random chance;
    private final String name;
    private LzwForms x;
    private Model model;
    private int calls;

    private ModelTest(long seed) {
        chance = new Random(seed);
        name = "seed " + seed + ", call ";
        fresh();
    }

    public static void main(String[] args) {
        for (int seed = 0; seed < 150; seed++) {
            new ModelTest(seed).anyCalls();
        }
        for (int seed = 1000; seed < 1100; seed++) {
            new ModelTest(seed).packWriteRead();
        }
        for (int seed = 2000; seed < 2500; seed++) {
            new ModelTest(seed).tapeOfAnyCodes();
        }
        Due.end();
    }

    private void fresh() {
        x = new LzwForms();
        model = new Model();
        calls = 0;
    }

    private boolean roomFor(int more) {
        return calls + more <= MOST_CALLS;
    }

    private int upTo(int most) {
        return chance.nextInt(most + 1);
    }

    private void same(String call, int got, int want) {
        calls++;
        Due.is(name + calls + ": " + call, got, want);
    }

    private void setAny() {
        int form = upTo(2);
        int k = form == 0 ? 2 + upTo(6) : 8;
        int most = upTo(1) == 0 ? k + 2 : k + 2 + upTo(10 - k);
        int clears = new int[] {0, 1, 1, 2, 3, 2 + upTo(98)}[upTo(5)];
        setting(form, k, most, clears);
    }

    private void setting(int form, int k, int most, int clears) {
        String call = "setting(" + form + ", " + k + ", " + most + ", " + clears + ")";
        same(call, x.setting(form, k, most, clears), model.setting(form, k, most, clears));
    }

    private void symbol(int v) {
        same("symbol(" + v + ")", x.symbol(v), model.symbol(v));
    }

    private void more(int v) {
        same("more(" + v + ")", x.more(v), model.more(v));
    }

    private void flip(int i, int j) {
        same("flip(" + i + ", " + j + ")", x.flip(i, j), model.flip(i, j));
    }

    private void cut(int n) {
        same("cut(" + n + ")", x.cut(n), model.cut(n));
    }

    private void told(int what) {
        same("told(" + what + ")", x.told(what), model.told(what));
    }

    private void code(int i, int what) {
        same("code(" + i + ", " + what + ")", x.code(i, what), model.code(i, what));
    }

    private void string(int number, int what) {
        same("string(" + number + ", " + what + ")", x.string(number, what), model.string(number, what));
    }

    private void at(int i) {
        same("at(" + i + ")", x.at(i), model.at(i));
    }

    private void octet(int i) {
        same("octet(" + i + ")", x.octet(i), model.octet(i));
    }

    private void empty() {
        same("empty()", x.empty(), model.empty());
    }

    private void write() {
        same("write()", x.write(), model.write());
    }

    private void readAndFault() {
        same("read()", x.read(), model.read());
        same("fault()", x.fault(), model.fault());
    }

    private int anyNumber() {
        int[] edges = {Integer.MIN_VALUE, -1, 0, 7, 8, 255, 256, 257, 258, 300, 400, 4095, 4096, Integer.MAX_VALUE};
        return upTo(2) == 0 ? edges[upTo(edges.length - 1)] : upTo(12);
    }

    private void anyCalls() {
        setAny();
        while (roomFor(2)) {
            switch (upTo(15)) {
                case 0: setting(upTo(3), anyNumber(), anyNumber(), anyNumber()); break;
                case 1: if (upTo(9) == 0) empty(); break;
                case 2: at(anyNumber()); break;
                case 3: told(upTo(9)); break;
                case 4: told(anyNumber()); break;
                case 5: code(anyNumber(), upTo(2)); break;
                case 6: string(upTo(1) == 0 ? model.first() + upTo(20) : anyNumber(), upTo(2)); break;
                case 7: write(); break;
                case 8: more(upTo(3) == 0 ? anyNumber() : upTo(255)); break;
                case 9: cut(Math.max(0, model.tape.size() - upTo(3))); break;
                case 10: flip(upTo(20), upTo(8)); break;
                case 11: octet(anyNumber()); break;
                case 12: readAndFault(); break;
                case 13: code(anyNumber(), anyNumber()); string(anyNumber(), anyNumber()); break;
                default: symbol(upTo(9) == 0 ? anyNumber() : upTo(3)); break;
            }
        }
    }

    private void packWriteRead() {
        setAny();
        int kinds = Math.min(model.clear() - 1, new int[] {0, 1, 3, 15, 255}[upTo(4)]);
        int length = upTo(2) == 0 ? 300 : upTo(300);
        for (int i = 0; i < length; i++) {
            symbol(upTo(7) == 0 ? i % model.clear() : upTo(kinds));
        }
        for (int what = 6; what <= 9; what++) {
            told(what);
        }
        for (int tries = 0; tries < 40; tries++) {
            code(upTo(model.codes.size()), upTo(2));
            string(model.first() + upTo(model.byNumber.size() - model.clear() + 1), upTo(2));
        }
        write();
        for (int tries = 0; tries < 20; tries++) {
            octet(upTo(model.tape.size()));
        }
        readAndFault();
        at(upTo(300));
        spoilAndRead();
    }

    private void spoilAndRead() {
        while (roomFor(4)) {
            int size = model.tape.size();
            int i = upTo(2) == 0 ? size - 1 : upTo(Math.max(0, size - 1));
            int j = upTo(7);
            int kind = upTo(5);
            if (kind == 0) {
                cut(Math.max(0, size - 1 - upTo(2)));
                readAndFault();
            } else if (kind == 1) {
                more(upTo(3) == 0 ? upTo(255) : 0);
                readAndFault();
            } else {
                flip(i, j);
                readAndFault();
                flip(i, j);
            }
        }
    }

    private void tapeOfAnyCodes() {
        setAny();
        List<Integer> row = new ArrayList<>();
        if (model.form != 2 && upTo(30) != 0) {
            row.add(model.clear());
        }
        int length = new int[] {5, 30, 200, 340}[upTo(3)];
        int faults = upTo(2) == 0 ? 40 : 100000;
        int clearsToo = new int[] {3, 30, 280, 100000}[upTo(3)];
        int short1 = upTo(1);
        int since = 0;
        for (int i = 0; i < length; i++) {
            int count = Math.min(model.first() + Math.max(0, since - 1), model.last());
            int code = upTo(model.clear() - 1);
            if (since > 0 && short1 == 0 && count > model.first()) {
                code = model.first() + upTo(count - model.first());
            }
            if (upTo(faults) == 0) {
                code = count + upTo(2);
            } else if (upTo(clearsToo) == 0) {
                code = model.clear();
            } else if (upTo(60) == 0 && since > 0) {
                code = count;
            }
            since = code == model.clear() ? 0 : since + 1;
            row.add(code);
        }
        if (model.form != 2 && upTo(9) != 0) {
            row.add(model.end());
        }
        List<Integer> bytes = model.bytesOf(model.bitsOfAll(row, new ArrayList<>()));
        for (int i = 0; i < bytes.size() && i < 400; i++) {
            more(bytes.get(i));
        }
        readAndFault();
        told(6);
        for (int i = 0; i < 20; i++) {
            at(upTo(model.data.size()));
        }
        spoilAndRead();
    }
}
