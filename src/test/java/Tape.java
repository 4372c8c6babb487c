/** Puts texts on THE TAPE of a ferry. */
final class Tape {
    private Tape() {
    }

    /** Feeds the bytes of a text, twelve by twelve, and trims what was fed too much. */
    static void put(RopeFerry x, String text) {
        int ahead = x.count(6);
        for (int i = 0; i < text.length(); i += 12) {
            x.feed(four(text, i), four(text, i + 4), four(text, i + 8));
        }
        x.trim(ahead + text.length());
    }

    static int tell(RopeFerry x, String text) {
        put(x, text);
        return x.text();
    }

    private static int four(String text, int from) {
        int sum = 0;
        for (int i = from; i < from + 4; i++) {
            sum = sum << 8 | (i < text.length() ? text.charAt(i) & 255 : ' ');
        }
        return sum;
    }
}
