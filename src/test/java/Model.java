import java.util.ArrayList;
import java.util.HashMap;
import java.util.List;
import java.util.Map;

/**
 * The document once more, told as plainly as the Java library allows and without a look at the
 * class: STRINGS are texts, THE TAPE's bits are characters '0' and '1'.
 */
final class Model {
    int form = 0;
    int k = 8;
    int most = 12;
    int clears = 1;
    final List<Integer> data = new ArrayList<>();
    final List<Integer> tape = new ArrayList<>();
    int faultBits = -1;

    // What packing leaves.
    final List<Integer> codes = new ArrayList<>();
    final List<Integer> widths = new ArrayList<>();
    final List<Integer> begins = new ArrayList<>();
    final Map<Integer, String> byNumber = new HashMap<>();
    String bits = "";
    int clearCodes = 0;

    int clear() {
        return 1 << k;
    }

    int end() {
        return form == 2 ? -99 : clear() + 1;
    }

    int first() {
        return form == 2 ? 257 : clear() + 2;
    }

    int last() {
        return form == 1 ? (1 << most) - 1 : 1 << most;
    }

    /** The WIDTH of each of these CODES, and last that of a CODE that would come behind them. */
    List<Integer> widthsOf(List<Integer> row) {
        List<Integer> found = new ArrayList<>();
        int count = first();
        int width = k + 1;
        int strings = 0;
        for (int code : row) {
            found.add(width);
            if (code == clear()) {
                count = first();
                width = k + 1;
                strings = 0;
            } else if (code != end()) {
                strings++;
                if (strings > 1) {
                    count = Math.min(last(), count + 1);
                }
                int goal = form == 1 ? (1 << width) - 1 : 1 << width;
                if (count == goal && width < most) {
                    width++;
                }
            }
        }
        found.add(width);
        return found;
    }

    /** How many bits fill the GROUP behind these CODES, if a CODE of this WIDTH comes then. */
    int fillBehind(List<Integer> row, List<Integer> rowWidths, int width) {
        if (form != 2 || row.isEmpty()) {
            return 0;
        }
        int inGroup = 0;
        for (int i = 0; i < row.size(); i++) {
            boolean begins = i == 0 || row.get(i - 1) == clear()
                || !rowWidths.get(i - 1).equals(rowWidths.get(i)) || inGroup == 8;
            inGroup = begins ? 1 : inGroup + 1;
        }
        int i = row.size() - 1;
        boolean breaks = row.get(i) == clear() || rowWidths.get(i) != width;
        return breaks ? (8 - inGroup) * rowWidths.get(i) : 0;
    }

    String bitsOf(int code, int width) {
        StringBuilder text = new StringBuilder();
        for (int i = width - 1; i >= 0; i--) {
            text.append((code >> i) & 1);
        }
        return form == 1 ? text.toString() : text.reverse().toString();
    }

    /** Puts any row of CODES into bits as the document has it, sensible or not. */
    String bitsOfAll(List<Integer> row, List<Integer> whereTheyBegin) {
        StringBuilder text = new StringBuilder();
        List<Integer> rowWidths = widthsOf(row);
        for (int i = 0; i < row.size(); i++) {
            int width = rowWidths.get(i);
            text.append("0".repeat(fillBehind(row.subList(0, i), rowWidths, width)));
            whereTheyBegin.add(text.length());
            text.append(bitsOf(row.get(i), width));
        }
        return text.toString();
    }

    List<Integer> bytesOf(String text) {
        List<Integer> bytes = new ArrayList<>();
        for (int from = 0; from < text.length(); from += 8) {
            String one = text.substring(from, Math.min(from + 8, text.length()));
            one = one + "0".repeat(8 - one.length());
            if (form != 1) {
                one = new StringBuilder(one).reverse().toString();
            }
            bytes.add(Integer.parseInt(one, 2));
        }
        return bytes;
    }

    private Map<String, Integer> freshTable() {
        Map<String, Integer> table = new HashMap<>();
        for (int v = 0; v < clear(); v++) {
            table.put(String.valueOf((char) v), v);
        }
        return table;
    }

    void pack() {
        codes.clear();
        widths.clear();
        begins.clear();
        byNumber.clear();
        clearCodes = 0;
        StringBuilder rest = new StringBuilder();
        for (int v : data) {
            rest.append((char) v);
        }
        Map<String, Integer> table = freshTable();
        int next = first();
        int since = 0;
        if (form != 2) {
            codes.add(clear());
            clearCodes++;
        }
        while (rest.length() > 0) {
            int length = rest.length();
            while (!table.containsKey(rest.substring(0, length))) {
                length--;
            }
            codes.add(table.get(rest.substring(0, length)));
            since++;
            if (length < rest.length()) {
                if (next != last()) {
                    table.put(rest.substring(0, length + 1), next);
                    next++;
                }
                if (clears == 1 && next == last() || clears >= 2 && since == clears) {
                    codes.add(clear());
                    clearCodes++;
                    table = freshTable();
                    next = first();
                    since = 0;
                }
            }
            rest.delete(0, length);
        }
        if (form != 2) {
            codes.add(end());
        }
        for (Map.Entry<String, Integer> entry : table.entrySet()) {
            byNumber.put(entry.getValue(), entry.getKey());
        }
        widths.addAll(widthsOf(codes).subList(0, codes.size()));
        bits = bitsOfAll(codes, begins);
    }

    int setting(int f, int newK, int m, int c) {
        if (f < 0 || f > 2 || newK < (f == 0 ? 2 : 8) || newK > 8 || m < newK + 2 || m > 12 || c < 0 || c > 100) {
            return -2;
        }
        if (!data.isEmpty()) {
            return -3;
        }
        form = f;
        k = newK;
        most = m;
        clears = c;
        return 1;
    }

    int symbol(int v) {
        if (v < 0 || v >= clear()) {
            return -2;
        }
        if (data.size() == 300) {
            return -4;
        }
        data.add(v);
        return data.size();
    }

    int empty() {
        int had = data.size();
        data.clear();
        return had;
    }

    int at(int i) {
        return i >= 0 && i < data.size() ? data.get(i) : -1;
    }

    int told(int what) {
        pack();
        int[] all = {data.size(), form, k, most, clears, tape.size(), codes.size(), bits.length(),
            byNumber.size() - clear(), clearCodes};
        return what >= 0 && what < all.length ? all[what] : -2;
    }

    int code(int i, int what) {
        if (what < 0 || what > 2) {
            return -2;
        }
        pack();
        if (i < 0 || i >= codes.size()) {
            return -1;
        }
        return what == 0 ? codes.get(i) : what == 1 ? widths.get(i) : begins.get(i);
    }

    int string(int number, int what) {
        if (what < 0 || what > 2) {
            return -2;
        }
        pack();
        String text = byNumber.get(number);
        if (text == null) {
            return -1;
        }
        if (what == 2) {
            return text.length();
        }
        if (what == 1) {
            return text.charAt(text.length() - 1);
        }
        String head = text.substring(0, text.length() - 1);
        for (Map.Entry<Integer, String> entry : byNumber.entrySet()) {
            if (entry.getValue().equals(head)) {
                return entry.getKey();
            }
        }
        return -1;
    }

    int write() {
        pack();
        List<Integer> bytes = bytesOf(bits);
        if (bytes.size() > 400) {
            return -4;
        }
        tape.clear();
        tape.addAll(bytes);
        return tape.size();
    }

    int more(int v) {
        if (v < 0 || v > 255) {
            return -2;
        }
        if (tape.size() == 400) {
            return -4;
        }
        tape.add(v);
        return tape.size();
    }

    int cut(int n) {
        if (n < 0 || n > tape.size()) {
            return -2;
        }
        int went = tape.size() - n;
        tape.subList(n, tape.size()).clear();
        return went;
    }

    int flip(int i, int j) {
        if (j < 0 || j > 7) {
            return -2;
        }
        if (i < 0 || i >= tape.size()) {
            return -1;
        }
        tape.set(i, tape.get(i) ^ (1 << j));
        return tape.get(i);
    }

    int octet(int i) {
        return i >= 0 && i < tape.size() ? tape.get(i) : -1;
    }

    int fault() {
        return faultBits;
    }

    private String tapeBits() {
        StringBuilder text = new StringBuilder();
        for (int b : tape) {
            for (int i = 0; i < 8; i++) {
                text.append((b >> (form == 1 ? 7 - i : i)) & 1);
            }
        }
        return text.toString();
    }

    private int met(int number, int bitsRead) {
        faultBits = bitsRead;
        return -10 - number;
    }

    int read() {
        String all = tapeBits();
        List<Integer> seen = new ArrayList<>();
        Map<Integer, String> table = new HashMap<>();
        StringBuilder out = new StringBuilder();
        String before = null;
        int count = first();
        int p = 0;
        while (true) {
            List<Integer> seenWidths = widthsOf(seen);
            int width = seenWidths.get(seen.size());
            int fill = fillBehind(seen, seenWidths, width);
            if (form == 2 && all.length() - p < fill + width) {
                int one = all.indexOf('1', p);
                return one >= 0 ? met(6, one + 1) : done(out);
            }
            int one = all.indexOf('1', p);
            if (one >= 0 && one < p + fill) {
                return met(6, one + 1);
            }
            p += fill;
            if (all.length() - p < width) {
                return met(1, all.length());
            }
            String piece = all.substring(p, p + width);
            p += width;
            int code = Integer.parseInt(form == 1 ? piece : new StringBuilder(piece).reverse().toString(), 2);
            if (form != 2 && seen.isEmpty() && code != clear()) {
                return met(2, p);
            }
            seen.add(code);
            if (code == end()) {
                break;
            }
            if (code == clear()) {
                table.clear();
                before = null;
                count = first();
                continue;
            }
            if (before == null && code >= first()) {
                return met(3, p);
            }
            if (before != null && (code > count || count == last() && code >= last())) {
                return met(4, p);
            }
            String text = code < clear() ? String.valueOf((char) code) : table.get(code);
            if (text == null) {
                text = before + before.charAt(0);
            }
            if (before != null && count != last()) {
                table.put(count, before + text.charAt(0));
                count++;
            }
            out.append(text);
            if (out.length() > 300) {
                return met(5, p);
            }
            before = text;
        }
        for (; p % 8 != 0; p++) {
            if (all.charAt(p) == '1') {
                return met(6, p + 1);
            }
        }
        return p < all.length() ? met(6, p) : done(out);
    }

    private int done(StringBuilder out) {
        faultBits = -1;
        data.clear();
        for (int i = 0; i < out.length(); i++) {
            data.add((int) out.charAt(i));
        }
        return data.size();
    }
}
