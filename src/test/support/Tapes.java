/** Lays a text on the tape of an object, twelve bytes a call, and trims what is too much. */
final class Tapes {
    private Tapes() {
    }

    static void put(NoonVows x, String text) {
        x.trim(0);
        for (int at = 0; at < text.length(); at += 12) {
            x.feed(four(text, at), four(text, at + 4), four(text, at + 8));
        }
        x.trim(text.length());
    }

    static int text(NoonVows x, String text) {
        put(x, text);
        return x.text();
    }

    private static int four(String text, int at) {
        int number = 0;
        for (int k = at; k < at + 4; k++) {
            number = number << 8 | (k < text.length() ? text.charAt(k) & 255 : 0);
        }
        return number;
    }
}
