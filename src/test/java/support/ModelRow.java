import java.util.List;

/** A ROW's TEXT read by a machine of states, a byte at a time. */
final class ModelRow {
    private ModelRow() {
    }

    private enum At { VALUE, SIGNED, DIGITS, STAR, TIMES, ENDED }

    static int read(String text, int dots, boolean kerb, List<Integer> values) {
        At at = At.VALUE;
        int start = 0;
        int first = 0;
        int number = 0;
        int sign = 1;
        int times = 1;
        for (int place = 0; place <= text.length(); place++) {
            char c = place < text.length() ? text.charAt(place) : 0;
            boolean digit = c >= '0' && c <= '9';
            // What ends ahead of this byte is asked first.
            if (at == At.DIGITS && (!digit || place - first == 2)) {
                if (sign < 0 && number == 0) {
                    return -1000 - first;
                }
                if (c == '*') {
                    at = At.STAR;
                    continue;
                }
                at = At.ENDED;
            } else if (at == At.TIMES && (!digit || place - first == 2)) {
                if (times < 2 || times > 64) {
                    return -3000 - first;
                }
                at = At.ENDED;
            }
            if (at == At.ENDED) {
                for (int k = 0; k < times; k++) {
                    values.add(sign * number);
                }
                if (values.size() > dots) {
                    return -6000 - start;
                }
                if (place == text.length()) {
                    return values.size() == dots ? 0 : -1000 - place;
                }
                if (c != ',') {
                    return -1000 - place;
                }
                at = At.VALUE;
                continue;
            }
            if (at == At.VALUE) {
                start = place;
                sign = 1;
                times = 1;
                if (c == '-' && kerb) {
                    sign = -1;
                    at = At.SIGNED;
                    continue;
                }
            }
            if (!digit) {
                return -1000 - place;
            }
            int value = c - '0';
            switch (at) {
                case VALUE:
                case SIGNED:
                    first = place;
                    number = value;
                    at = At.DIGITS;
                    break;
                case DIGITS:
                    number = 10 * number + value;
                    break;
                case STAR:
                    first = place;
                    times = value;
                    at = At.TIMES;
                    break;
                default:
                    times = 10 * times + value;
                    break;
            }
        }
        throw new IllegalStateException(text);
    }
}
