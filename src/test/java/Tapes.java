import java.nio.charset.StandardCharsets;

/** Writes a text on the tape of an object, twenty bytes a feed. */
final class Tapes {
    private Tapes() {
    }

    static int[] words(String text) {
        byte[] bytes = text.getBytes(StandardCharsets.ISO_8859_1);
        int feeds = (bytes.length + 19) / 20;
        int[] words = new int[feeds * 5];
        for (int i = 0; i < bytes.length; i++) {
            words[i / 4] |= (bytes[i] & 255) << (24 - i % 4 * 8);
        }
        return words;
    }

    static void write(LiquoriceRoads x, String text) {
        x.end(0);
        int[] words = words(text);
        for (int i = 0; i < words.length; i += 5) {
            x.feed(words[i], words[i + 1], words[i + 2], words[i + 3], words[i + 4]);
        }
        x.end(text.length());
    }

    static int text(LiquoriceRoads x, String text) {
        write(x, text);
        return x.text();
    }
}
