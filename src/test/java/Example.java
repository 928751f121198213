/** Two pancakes, three tasters: the example of README.md. The answers stand behind the calls. */
public final class Example {
    public static void main(String[] args) {
        PancakePanel panel = new PancakePanel();
        String setup = "panel 100 1; person ann 1; person bob 2; person cy 3; person dora 4;"
            + "taster ann 2 5 0 0 0; taster cy 1 7 0 0 0; taster dora 2 3 0 0 9;"
            + "pancake 0 bob; pancake 3 bob ann; bid dora 0 2";
        append(panel, setup);
        show(panel.bufferLength());              // 180: the setup, and spaces behind it
        show(panel.parseSetup(setup.length()));  // 2: pancakes, numbered 0 and 1
        show(panel.bufferLength());              // 0: parsing empties the buffer

        // What the panel answers: persons are numbered as they came, ann is 0 and dora is 3.
        show(panel.personCount());               // 4
        show(panel.isTaster(1));                 // false: bob only cooks
        show(panel.preference(3, 0));            // 23: dora bids 2, and her taste for topic 0 is 3
        show(panel.conflict(0, 1));              // 1: ann is one of the cooks of pancake 1
        show(panel.refusal(0, 1));               // 3: so she can not taste it
        show(panel.bestTaster(0));               // 3: dora has the greatest preference
        show(panel.lackingAfterFilling());       // 2: of the 6 seats; nothing has changed so far

        // What changes the panel.
        show(panel.fill());                      // 5: seats were given; cy moved, and ann got the seat
        show(panel.seatCount(0));                // 2
        show(panel.score(3, 0, 4));              // 0: there was no score before
        show(panel.score(0, 0, 8));              // 0
        show(panel.score(3, 1, 9));              // 0
        show(panel.averageScore());              // 7.0
        show(panel.spreadOf(0));                 // 250
        show(panel.needsTalk(0));                // true: the threshold is 100
        show(panel.talk(0));                     // 1: score changed, by 1 toward the smaller one
        show(text(panel, panel.writePancake(0)));  // dora=4,ann=7/541: behind the slash the total

        // What is undone, saved and restored.
        show(panel.undoCount());                 // 5: fill, three scores and the talk
        show(panel.undo());                      // 4: the talk is undone
        show(panel.scoreOf(0, 0));               // 8
        show(panel.saveState(0));                // 3: scores
        show(panel.unassign(0, 0));              // 1: taster is left; the score of ann is gone, too
        show(panel.restoreState(0));             // 3
        show(panel.undoCount());                 // 0

        // What is refused changes nothing.
        try {
            panel.assign(0, 1);
        } catch (IllegalArgumentException e) {
            show(panel.seatCount(1));            // 2
        }
        append(panel, "panel 100 1; person ann 12");
        try {
            panel.parseSetup(26);
        } catch (IllegalArgumentException e) {
            show(panel.parseErrorCode());        // 2: RANGE_ERROR
            show(panel.parseErrorPosition());    // 24: where "12" begins
        }
        show(panel.personCount());               // 4: the panel is still the one from before
    }

    /** Appends a text, filled up with spaces: twenty bytes a call, four in each argument. */
    private static void append(PancakePanel panel, String text) {
        for (int i = 0; i < text.length(); i += 20) {
            panel.append(word(text, i), word(text, i + 4), word(text, i + 8), word(text, i + 12),
                word(text, i + 16));
        }
    }

    private static int word(String text, int from) {
        int word = 0;
        for (int i = from; i < from + 4; i++) {
            word = word << 8 | (i < text.length() ? text.charAt(i) : ' ');
        }
        return word;
    }

    private static String text(PancakePanel panel, int length) {
        StringBuilder text = new StringBuilder();
        for (int i = 0; i < length; i++) {
            text.append((char) panel.outputByte(i));
        }
        return text.toString();
    }

    private static void show(Object answer) {
        System.out.println(answer);
    }
}
