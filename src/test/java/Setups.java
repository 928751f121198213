/** Parses setups that are due to be valid or to have an error at a marked place. */
final class Setups {
    private Setups() {
    }

    /** The text has a ^ ahead of the token with the error, or at its end if it ends too early. */
    static void error(int code, String marked) {
        int position = marked.indexOf('^');
        String text = marked.substring(0, position) + marked.substring(position + 1);
        PancakePanel panel = new PancakePanel();
        Check.refused(marked, () -> Panels.parse(panel, text));
        Check.same(marked + " code", panel.parseErrorCode(), code);
        Check.same(marked + " position", panel.parseErrorPosition(), position);
        Check.same(marked + " buffer", panel.bufferLength(), 0);
        Check.noPanel(marked + " loaded", panel::personCount);
    }

    static PancakePanel valid(String text) {
        PancakePanel panel = new PancakePanel();
        Check.same(text + " throws", Check.thrownBy(() -> Panels.parse(panel, text)), "nothing");
        Check.same(text + " code", panel.parseErrorCode(), 0);
        Check.same(text + " position", panel.parseErrorPosition(), PancakePanel.NONE);
        return panel;
    }
}
