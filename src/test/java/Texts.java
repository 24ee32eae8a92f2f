/** Texts put on THE TAPE and what is SPELLED, as strings. */
final class Texts {
    private Texts() {
    }

    static void feed(CutDistances x, String text) {
        for (int i = 0; i < text.length(); i++) {
            x.feed(text.charAt(i), 1);
        }
    }

    static int read(CutDistances x, String text) {
        x.wipe();
        feed(x, text);
        return x.read();
    }

    static String spelled(CutDistances x) {
        StringBuilder text = new StringBuilder();
        for (int i = 0; i < x.spell(-1); i++) {
            text.append((char) x.spell(i));
        }
        return text.toString();
    }
}
