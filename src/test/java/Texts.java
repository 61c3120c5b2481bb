/** Puts a text on the tape of a works. */
final class Texts {
    private Texts() {
    }

    /** Feeds a text, twenty bytes at a time, and takes the padding back; the calls that it took. */
    static int feed(SlideWorks x, String text) {
        int calls = 0;
        for (int at = 0; at < text.length(); at += 20) {
            int[] five = new int[5];
            for (int i = 0; i < 20; i++) {
                int sign = at + i < text.length() ? text.charAt(at + i) : 0;
                five[i / 4] = five[i / 4] << 8 | sign;
            }
            x.feed(five[0], five[1], five[2], five[3], five[4]);
            calls++;
        }
        if (text.length() % 20 != 0) {
            x.back(20 - text.length() % 20);
            calls++;
        }
        return calls;
    }

    static int read(SlideWorks x, String text) {
        feed(x, text);
        return x.read();
    }
}
