/** Texts as calls of sign() and end(). */
final class Signs {
    private Signs() {
    }

    /** The calls' arguments of sign() for a text, four signs each, the last one filled up with zeros. */
    static int[] packed(String text) {
        int[] all = new int[(text.length() + 3) / 4];
        for (int i = 0; i < text.length(); i++) {
            all[i / 4] |= (text.charAt(i) & 255) << 24 - i % 4 * 8;
        }
        return all;
    }

    static void tell(SoundAdvice x, String text) {
        x.end(0);
        for (int v : packed(text)) {
            x.sign(v);
        }
        x.end(text.length());
    }
}
