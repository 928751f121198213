/** All that an object answers when it is read, as a text, so that two objects or two moments can be compared. */
final class Snapshot {
    private final PancakePanel panel;
    private final StringBuilder text = new StringBuilder();

    private Snapshot(PancakePanel panel) {
        this.panel = panel;
    }

    /** Without what undoing and restoring leave alone: the buffer, the latest error and the output. */
    static String ofPanel(PancakePanel panel) {
        Snapshot snapshot = new Snapshot(panel);
        if (Check.thrownBy(panel::pancakeCount).equals("nothing")) {
            snapshot.addAll();
        }
        return snapshot.text.toString();
    }

    static String of(PancakePanel panel) {
        Snapshot snapshot = new Snapshot(panel);
        snapshot.add("undoCount", panel.undoCount(), "buffer", panel.bufferLength(), "error",
            panel.parseErrorCode(), panel.parseErrorPosition());
        return ofPanel(panel) + snapshot.text + output(panel);
    }

    static String output(PancakePanel panel) {
        StringBuilder bytes = new StringBuilder("output ");
        for (int i = 0; Check.thrownBy(byteOf(panel, i)).equals("nothing"); i++) {
            bytes.append((char) panel.outputByte(i));
        }
        return bytes.toString();
    }

    private static Check.Call byteOf(PancakePanel panel, int index) {
        return () -> panel.outputByte(index);
    }

    private void add(Object... values) {
        for (Object value : values) {
            text.append(value).append(' ');
        }
        text.append('\n');
    }

    private void addAll() {
        int persons = panel.personCount();
        int pancakes = panel.pancakeCount();
        add("lacking", panel.lacking(), panel.lackingAfterFilling(), "harshest", panel.harshest(), "counts",
            panel.fillCount(), panel.moveCount(), panel.talkCount(), panel.changeCount(), "measures",
            panel.averageScore(), panel.seatShare(), panel.imbalance());
        for (int person = 0; person < persons; person++) {
            addPerson(person);
            for (int pancake = 0; pancake < pancakes; pancake++) {
                addPair(person, pancake);
            }
        }
        for (int pancake = 0; pancake < pancakes; pancake++) {
            addPancake(pancake);
        }
    }

    private void addPerson(int person) {
        add("person", person, Panels.name(panel, person), panel.kitchenOf(person), panel.isTaster(person),
            panel.limitOf(person), "tastes", panel.tasteOf(person, 0), panel.tasteOf(person, 1),
            panel.tasteOf(person, 2), panel.tasteOf(person, 3), "favorite", panel.favoriteOf(person), "load",
            panel.loadOf(person), "mean", panel.meanOf(person), panel.disagreement(person));
    }

    private void addPair(int person, int pancake) {
        add("pair", person, pancake, "bid", panel.bidOf(person, pancake), panel.preference(person, pancake),
            "conflict", panel.conflict(person, pancake), panel.refusal(person, pancake), "score",
            panel.scoreOf(person, pancake), panel.adjustedScore(person, pancake));
    }

    private void addPancake(int pancake) {
        StringBuilder cooks = new StringBuilder();
        for (int i = 0; i < panel.cookCount(pancake); i++) {
            cooks.append(panel.cookAt(pancake, i)).append(',');
        }
        add("pancake", pancake, panel.topicOf(pancake), "cooks", cooks, "seats", Panels.seats(panel, pancake),
            "conflicts", panel.conflictCount(pancake), "best", panel.bestTaster(pancake), "scores",
            panel.scoreCount(pancake), panel.totalOf(pancake), panel.spreadOf(pancake), panel.needsTalk(pancake),
            panel.spreadAfterTalk(pancake), "rank", panel.rankOf(pancake), panel.pancakeAt(pancake),
            panel.isAccepted(pancake));
    }
}
