/** Bits that are put on THE TAPE of an object by more(), in the order of its FORM. */
final class Bits {
    private final boolean highestFirst;
    private final StringBuilder text = new StringBuilder();

    Bits(int form) {
        highestFirst = form == 1;
    }

    Bits code(int code, int width) {
        for (int i = 0; i < width; i++) {
            text.append((code >> (highestFirst ? width - 1 - i : i)) & 1);
        }
        return this;
    }

    Bits zeros(int count) {
        text.append("0".repeat(count));
        return this;
    }

    int length() {
        return text.length();
    }

    int bytes() {
        return (text.length() + 7) / 8;
    }

    /** Byte i of these bits, the last one filled with bits 0. */
    int octet(int i) {
        int b = 0;
        for (int j = 0; j < 8 && 8 * i + j < text.length(); j++) {
            b |= (text.charAt(8 * i + j) - '0') << (highestFirst ? 7 - j : j);
        }
        return b;
    }

    void putOn(LzwForms x) {
        x.cut(0);
        for (int i = 0; i < bytes(); i++) {
            x.more(octet(i));
        }
    }
}
