import java.nio.charset.StandardCharsets;

/** Texts as the ints that feed() takes: five at a time, and blanks behind the text. */
final class Tape {
    private Tape() {
    }

    static int[][] feeds(String text) {
        byte[] bytes = text.getBytes(StandardCharsets.ISO_8859_1);
        int[][] feeds = new int[(bytes.length + 19) / 20][5];
        for (int at = 0; at < 20 * feeds.length; at++) {
            int sign = at < bytes.length ? bytes[at] & 255 : ' ';
            feeds[at / 20][at % 20 / 4] |= sign << 24 - 8 * (at % 4);
        }
        return feeds;
    }
}
