import java.util.ArrayDeque;
import java.util.ArrayList;
import java.util.Deque;
import java.util.List;

/** Section 8 and promises 52 to 62: what can be undone, how often, and what saved states keep. */
public final class UndoEdgesTest {
    // a, b and c taste, x cooks both pancakes.
    private static final String BASE = "panel 100 1;person a 1;person b 2;person c 3;person x 4;taster a 6 0 0 0 0;"
        + "taster b 6 0 0 0 0;taster c 6 0 0 0 0;pancake 0 x;pancake 0 x;seat b 0;seat a 0;seat a 1;score b 0 9;"
        + "score a 0 5;score a 1 1;conflict c 1;bid b 0 2";

    private UndoEdgesTest() {
    }

    public static void main(String[] args) {
        eachChange();
        changesOfNothing();
        eightAtMost();
        aroundTheHistory();
        newChangesAfterUndo();
        sinceSetup();
        sinceRestore();
        savingIsNoChange();
        savedStates();
        savedAgain();
        savedThroughUndo();
        numbersOfScores();
        clearedBySetup();
        bufferAndOutput();
        Check.finish();
    }

    // ---- undoing

    /** A change of a panel, so that each can be made on a panel of its own. */
    private interface Change {
        void on(PancakePanel panel);
    }

    private static void undone(String what, PancakePanel panel, Change change) {
        String before = Snapshot.ofPanel(panel);
        int count = panel.undoCount();
        change.on(panel);
        Check.same(what + " counts", panel.undoCount(), count + 1);
        Check.same(what + " undone", panel.undo(), count);
        Check.same(what + " is as before", Snapshot.ofPanel(panel), before);
        Check.same(what + " is off the count", panel.undoCount(), count);
    }

    /** "Each successful call .. can be undone": the state is the one before, with the order of seats and the counts. */
    private static void eachChange() {
        undone("bid", Panels.of(BASE), on -> on.bid(0, 1, 3));
        undone("assign", Panels.of(BASE), on -> on.assign(2, 0));
        undone("unassign of the first", Panels.of(BASE), on -> on.unassign(1, 0));
        undone("unassign of the last", Panels.of(BASE), on -> on.unassign(0, 0));
        undone("fill", Panels.of(BASE), PancakePanel::fill);
        undone("fill with a move", Panels.of("panel 0 0;person a 1;person b 2;person x 5;taster a 1 0 0 0 0;"
            + "taster b 6 0 0 0 0;pancake 0 x;pancake 0 x;conflict b 0;seat a 1"),
            on -> Check.same("seats and moves", on.fill() * 10 + on.moveCount(), 21));
        undone("first score", Panels.of(BASE + ";seat b 1"), on -> on.score(1, 1, 4));
        undone("another score", Panels.of(BASE), on -> on.score(1, 0, 1));
        undone("talk", Panels.of(BASE), on -> on.talk(0));
        undone("declare", Panels.of(BASE), on -> on.declare(0, 0, true));
        undone("declare the end", Panels.of(BASE), on -> on.declare(2, 1, false));
    }

    /** "even if it changed nothing" */
    private static void changesOfNothing() {
        PancakePanel panel = Panels.of(BASE + ";score a 0 8;seat b 1;limit c 1;seat c 0");
        undone("the same bid", panel, on -> on.bid(1, 0, 2));
        undone("fill of nothing", panel, PancakePanel::fill);
        Check.same("nothing was filled", panel.fill(), 0);
        undone("the same score", panel, on -> on.score(1, 0, 9));
        PancakePanel others = Panels.of(BASE + ";score a 0 8");
        undone("a talk of nothing", others, on -> on.talk(0));
        undone("declared already", others, on -> on.declare(2, 1, true));
    }

    private static void undoneToo(PancakePanel panel, int due) {
        Check.same("undo", panel.undo(), due);
        Check.same("undoCount", panel.undoCount(), due);
    }

    /** "At most the latest 8 changes" */
    private static void eightAtMost() {
        for (int changes = 0; changes <= 20; changes++) {
            PancakePanel panel = Panels.of(BASE);
            int[] scores = new int[changes + 1];
            scores[0] = 9;
            for (int i = 1; i <= changes; i++) {
                scores[i] = 1 + i * 4 % 9;
                panel.score(1, 0, scores[i]);
                Check.same("undoCount", panel.undoCount(), Math.min(i, 8));
            }
            int least = Math.max(0, changes - 8);
            for (int i = changes - 1; i >= least; i--) {
                undoneToo(panel, i - least);
                Check.same("score " + i + " of " + changes, panel.scoreOf(1, 0), scores[i]);
            }
            Check.noPanel("no more of " + changes, panel::undo);
            Check.same("the oldest stays", panel.scoreOf(1, 0), scores[least]);
        }
    }

    /** Undoing in the midst of many changes, so that any row of eight is gone around. */
    private static void aroundTheHistory() {
        PancakePanel panel = Panels.of(BASE);
        Deque<Integer> past = new ArrayDeque<>();
        int score = 9;
        for (int round = 0; round < 12; round++) {
            for (int i = 0; i < 1 + round * 5 % 7; i++) {
                past.addLast(score);
                score = 1 + (score + 4) % 9;
                panel.score(1, 0, score);
            }
            while (past.size() > 8) {
                past.removeFirst();
            }
            for (int i = 0; i < round % 4 && !past.isEmpty(); i++) {
                score = past.removeLast();
                undoneToo(panel, past.size());
                Check.same("score of round " + round, panel.scoreOf(1, 0), score);
            }
            Check.same("undoCount of round " + round, panel.undoCount(), past.size());
        }
        while (!past.isEmpty()) {
            score = past.removeLast();
            undoneToo(panel, past.size());
            Check.same("score at last", panel.scoreOf(1, 0), score);
        }
        Check.noPanel("nothing at last", panel::undo);
    }

    /** "the latest change that has not been undone" */
    private static void newChangesAfterUndo() {
        PancakePanel panel = Panels.of(BASE);
        panel.bid(0, 0, 1);
        panel.bid(0, 0, 2);
        panel.undo();
        panel.bid(0, 0, 3);
        Check.same("two changes", panel.undoCount(), 2);
        undoneToo(panel, 1);
        Check.same("not the one undone before", panel.bidOf(0, 0), 1);
        undoneToo(panel, 0);
        Check.same("the first one", panel.bidOf(0, 0), 0);
        Check.noPanel("no undo of an undo", panel::undo);
    }

    /** "since the latest successful call of parseSetup or restoreState" */
    private static void sinceSetup() {
        PancakePanel panel = Panels.of(BASE + ";fill;talk 0");
        Check.same("items are no changes", panel.undoCount(), 0);
        Check.noPanel("items can not be undone", panel::undo);
        panel.bid(0, 0, 1);
        Check.refused("an invalid setup", () -> Panels.parse(panel, "panel"));
        Check.outside("a wrong length", () -> panel.parseSetup(1));
        Check.same("after an unsuccessful setup", panel.undoCount(), 1);
        Panels.parse(panel, BASE);
        Check.same("after a setup", panel.undoCount(), 0);
        Check.noPanel("undo after a setup", panel::undo);
        panel.bid(0, 0, 2);
        undoneToo(panel, 0);
        Check.same("the new panel", panel.bidOf(0, 0), 0);
    }

    private static void sinceRestore() {
        PancakePanel panel = Panels.of(BASE);
        panel.bid(0, 0, 1);
        panel.saveState(1);
        panel.bid(0, 0, 2);
        Check.noPanel("an empty slot", () -> panel.restoreState(0));
        Check.outside("no slot", () -> panel.restoreState(2));
        Check.same("after unsuccessful calls", panel.undoCount(), 2);
        panel.restoreState(1);
        Check.same("after restoring", panel.undoCount(), 0);
        Check.noPanel("undo after restoring", panel::undo);
        Check.same("the restored bid", panel.bidOf(0, 0), 1);
        panel.bid(0, 0, 3);
        undoneToo(panel, 0);
        Check.same("the restored bid again", panel.bidOf(0, 0), 1);
    }

    private static void savingIsNoChange() {
        PancakePanel panel = Panels.of(BASE);
        panel.saveState(0);
        Check.same("saving counts not", panel.undoCount(), 0);
        panel.bid(0, 0, 1);
        panel.saveState(0);
        Check.same("saving keeps the count", panel.undoCount(), 1);
        undoneToo(panel, 0);
        Check.same("the bid, not the saving", panel.bidOf(0, 0), 0);
        panel.restoreState(0);
        Check.same("what was saved last", panel.bidOf(0, 0), 1);
    }

    // ---- slots

    /** Restores from any later state to the saved one, as often as one likes. */
    private static void savedStates() {
        List<Change> changes = new ArrayList<>();
        changes.add(on -> on.bid(0, 1, 3));
        changes.add(on -> on.assign(2, 0));
        changes.add(on -> on.unassign(1, 0));
        changes.add(PancakePanel::fill);
        changes.add(on -> on.score(0, 0, 9));
        changes.add(on -> on.talk(0));
        changes.add(on -> on.declare(0, 0, true));
        for (int slot = 0; slot < 2; slot++) {
            for (int i = 0; i < changes.size(); i++) {
                PancakePanel panel = Panels.of(BASE);
                String before = Snapshot.ofPanel(panel);
                panel.saveState(slot);
                changes.get(i).on(panel);
                int kept = slot;
                Check.noPanel("the other slot", () -> panel.restoreState(1 - kept));
                panel.restoreState(slot);
                Check.same("slot " + slot + " after change " + i, Snapshot.ofPanel(panel), before);
                changes.get(i).on(panel);
                panel.restoreState(slot);
                Check.same("again", Snapshot.ofPanel(panel), before);
            }
        }
    }

    /** "A state that was saved there before is lost", and the other slot is not touched. */
    private static void savedAgain() {
        PancakePanel panel = Panels.of(BASE);
        panel.bid(0, 0, 1);
        panel.saveState(0);
        panel.bid(0, 0, 2);
        panel.saveState(1);
        panel.bid(0, 0, 3);
        panel.saveState(0);
        panel.restoreState(1);
        Check.same("slot 1", panel.bidOf(0, 0), 2);
        panel.restoreState(0);
        Check.same("slot 0 has the later state", panel.bidOf(0, 0), 3);
        panel.restoreState(1);
        panel.saveState(0);
        panel.bid(0, 0, 0);
        panel.restoreState(0);
        Check.same("slot 0 has the state of slot 1", panel.bidOf(0, 0), 2);
    }

    private static void savedThroughUndo() {
        PancakePanel panel = Panels.of(BASE);
        panel.bid(0, 0, 1);
        panel.saveState(0);
        panel.undo();
        Check.same("undone", panel.bidOf(0, 0), 0);
        panel.restoreState(0);
        Check.same("the saved state is not undone", panel.bidOf(0, 0), 1);
        for (int i = 0; i < 10; i++) {
            panel.bid(0, 0, i % 4);
        }
        for (int i = 0; i < 8; i++) {
            panel.undo();
        }
        panel.restoreState(0);
        Check.same("after many changes", panel.bidOf(0, 0), 1);
    }

    private static void numbersOfScores() {
        PancakePanel panel = Panels.of(BASE);
        Check.same("three scores", panel.saveState(0), 3);
        panel.unassign(0, 1);
        Check.same("two scores", panel.saveState(1), 2);
        panel.unassign(0, 0);
        panel.unassign(1, 0);
        Check.same("the state with three", panel.restoreState(0), 3);
        Check.same("the state with two", panel.restoreState(1), 2);
        PancakePanel none = Panels.of("panel 0 0");
        Check.same("no scores", none.saveState(0), 0);
        Check.same("no scores again", none.restoreState(0), 0);
        PancakePanel full = Panels.of("panel 0 0;person a 1;person b 2;person c 3;person x 4;taster a 6 0 0 0 0;"
            + "taster b 6 0 0 0 0;taster c 6 0 0 0 0" + ";pancake 0 x".repeat(6) + ";fill");
        for (int i = 0; i < 18; i++) {
            full.score(i % 3, i / 3, 1 + i % 9);
        }
        Check.same("eighteen scores", full.saveState(1), 18);
    }

    private static void clearedBySetup() {
        PancakePanel panel = Panels.of(BASE);
        panel.saveState(0);
        panel.saveState(1);
        Check.refused("an invalid setup", () -> Panels.parse(panel, BASE + ";"));
        Check.same("still saved", panel.restoreState(0) + panel.restoreState(1), 6);
        Panels.parse(panel, BASE);
        Check.noPanel("slot 0", () -> panel.restoreState(0));
        Check.noPanel("slot 1", () -> panel.restoreState(1));
        Check.same("it can be saved again", panel.saveState(1) + panel.restoreState(1), 6);
    }

    /** "Undoing and restoring do not affect the input buffer and the output." */
    private static void bufferAndOutput() {
        PancakePanel panel = Panels.of(BASE);
        panel.saveState(0);
        panel.writePancake(0);
        panel.bid(0, 0, 1);
        panel.writeBids(0);
        Panels.append(panel, "panel 0 0;person new 1");
        Check.same("undone", panel.undo(), 0);
        Check.same("output after undo", Snapshot.output(panel), "output 1*0*");
        panel.restoreState(0);
        Check.same("output after restore", Snapshot.output(panel), "output 1*0*");
        Check.same("buffer", panel.bufferLength(), 40);
        panel.parseSetup(22);
        Check.same("bytes of the buffer", Panels.name(panel, 0), "new");
    }
}
