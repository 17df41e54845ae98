/**
 * What can be asked of an object, in one text, so that two objects can be held against each other.
 * Of a long row some places are asked, both ends among them: an object has 512 calls alone.
 */
final class Seen {
    private static final int PLACES = 12;

    private Seen() {
    }

    static String of(LzwForms x) {
        StringBuilder text = new StringBuilder();
        for (int what = 0; what <= 9; what++) {
            text.append(" told").append(what).append('=').append(x.told(what));
        }
        for (int i : places(x.told(0))) {
            text.append(" at").append(i).append('=').append(x.at(i));
        }
        for (int i : places(x.told(5))) {
            text.append(" octet").append(i).append('=').append(x.octet(i));
        }
        int first = x.told(1) == 2 ? 257 : (1 << x.told(2)) + 2;
        int[] codes = places(x.told(6));
        int[] strings = places(x.told(8));
        for (int what = 0; what <= 2; what++) {
            for (int i : codes) {
                text.append(" code").append(i).append('=').append(x.code(i, what));
            }
            for (int i : strings) {
                text.append(" string").append(first + i).append('=').append(x.string(first + i, what));
            }
        }
        return text.append(" fault=").append(x.fault()).toString();
    }

    private static int[] places(int size) {
        int[] row = new int[Math.min(size, PLACES) + 1];
        for (int i = 0; i < row.length; i++) {
            row[i] = size <= PLACES ? i : i == PLACES ? size : i * (size - 1) / (PLACES - 1);
        }
        return row;
    }
}
