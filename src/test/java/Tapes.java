/** Feeds a text to an object's tape, as a user of feed and end would. */
final class Tapes {
    private Tapes() {
    }

    static void put(CableForest x, String text) {
        int had = x.feed(0, 0, 0, 0, 0) - 20;
        x.end(had);
        int[] words = new int[(text.length() + 19) / 20 * 5];
        for (int i = 0; i < text.length(); i++) {
            words[i / 4] |= (text.charAt(i) & 255) << 24 - i % 4 * 8;
        }
        for (int i = 0; i < words.length; i += 5) {
            x.feed(words[i], words[i + 1], words[i + 2], words[i + 3], words[i + 4]);
        }
        x.end(had + text.length());
    }
}
