/** Makes panels out of texts, and reads what they write. */
final class Panels {
    private Panels() {
    }

    /** Appends the text, filled up with spaces to a multiple of twenty bytes. */
    static void append(PancakePanel panel, String text) {
        if (text.length() > 500) {
            throw new AssertionError("no buffer holds " + text);
        }
        int length = (text.length() + 19) / 20 * 20;
        for (int i = 0; i < length; i += 20) {
            panel.append(word(text, i), word(text, i + 4), word(text, i + 8), word(text, i + 12),
                word(text, i + 16));
        }
    }

    private static int word(String text, int from) {
        int word = 0;
        for (int i = from; i < from + 4; i++) {
            word = word << 8 | (i < text.length() ? text.charAt(i) : ' ');
        }
        return word;
    }

    static int parse(PancakePanel panel, String text) {
        append(panel, text);
        return panel.parseSetup(text.length());
    }

    static PancakePanel of(String text) {
        PancakePanel panel = new PancakePanel();
        parse(panel, text);
        return panel;
    }

    static String pancake(PancakePanel panel, int pancake) {
        return output(panel, panel.writePancake(pancake));
    }

    static String bids(PancakePanel panel, int person) {
        return output(panel, panel.writeBids(person));
    }

    static String seats(PancakePanel panel, int pancake) {
        StringBuilder text = new StringBuilder();
        for (int i = 0; i < panel.seatCount(pancake); i++) {
            text.append(i == 0 ? "" : ",").append(panel.seatAt(pancake, i));
        }
        return text.toString();
    }

    static String name(PancakePanel panel, int person) {
        StringBuilder text = new StringBuilder();
        for (int i = 0; panel.nameLetter(person, i) != PancakePanel.NONE; i++) {
            text.append((char) panel.nameLetter(person, i));
        }
        return text.toString();
    }

    private static String output(PancakePanel panel, int length) {
        StringBuilder text = new StringBuilder();
        for (int i = 0; i < length; i++) {
            text.append((char) panel.outputByte(i));
        }
        return text.toString();
    }
}
