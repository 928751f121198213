/** Promises 52 to 62: what can be undone, and the saved states. */
public final class StateTest {
    private static final String BASE = "panel 100 1;person a 1;person b 2;person c 3;person x 4;"
        + "taster a 6 0 0 0 0;taster b 6 0 0 0 0;taster c 1 0 0 0 0;pancake 0 x;pancake 0 x;pancake 0 x;";

    public static void main(String[] args) {
        undoing();
        eightAtMost();
        changesWithoutEffect();
        refusedCalls();
        readingIsNoChange();
        saving();
        restoring();
        undoAfterRestore();
        buffers();
        Check.finish();
    }

    private static void undoing() {
        PancakePanel panel = Panels.of(BASE + "seat a 0;seat b 0;score a 0 9");
        Check.noPanel("nothing to undo", panel::undo);
        panel.bid(0, 1, 2);
        panel.assign(1, 1);
        panel.unassign(0, 0);
        panel.fill();
        panel.score(1, 0, 4);
        panel.declare(0, 1, true);
        Check.same("undoCount", panel.undoCount(), 6);
        Check.same("undo declare", panel.undo(), 5);
        Check.same("not declared", panel.conflict(0, 1), 0);
        Check.same("undo score", panel.undo(), 4);
        Check.same("no score", panel.scoreOf(1, 0), 0);
        Check.isTrue("filled", panel.fillCount() > 0);
        Check.same("undo fill", panel.undo(), 3);
        Check.same("not filled", panel.fillCount() * 100 + panel.lacking(), 7);
        Check.same("undo unassign", panel.undo(), 2);
        Check.same("seat in its place", Panels.pancake(panel, 0), "a=9,b=?/900");
        Check.same("undo assign", panel.undo(), 1);
        Check.same("no seat", panel.seatCount(1), 0);
        Check.same("undo bid", panel.undo(), 0);
        Check.same("no bid", panel.bidOf(0, 1), 0);
        Check.noPanel("no more", panel::undo);
        Check.same("undo is no change", panel.undoCount(), 0);
        panel.bid(0, 1, 1);
        panel.bid(0, 1, 2);
        panel.undo();
        panel.bid(0, 1, 3);
        Check.same("new change after undo", panel.undoCount(), 2);
        panel.undo();
        Check.same("back to the first", panel.bidOf(0, 1), 1);
    }

    private static void eightAtMost() {
        PancakePanel panel = Panels.of(BASE + "seat a 0");
        for (int score = 1; score <= 9; score++) {
            panel.score(0, 0, score);
            Check.same("undoCount", panel.undoCount(), Math.min(score, 8));
        }
        for (int score = 8; score >= 1; score--) {
            Check.same("undo", panel.undo(), score - 1);
            Check.same("score before", panel.scoreOf(0, 0), score);
        }
        Check.noPanel("the ninth", panel::undo);
        Check.same("oldest stays", panel.scoreOf(0, 0), 1);
        for (int i = 0; i < 30; i++) {
            panel.score(0, 0, 1 + i % 9);
        }
        for (int i = 28; i >= 21; i--) {
            panel.undo();
            Check.same("score of many", panel.scoreOf(0, 0), 1 + i % 9);
        }
        Check.same("no more of many", panel.undoCount(), 0);
    }

    private static void changesWithoutEffect() {
        PancakePanel panel = Panels.of(BASE + "fill;score a 0 5;score b 0 5");
        panel.bid(0, 0, 0);
        panel.fill();
        panel.score(0, 0, 5);
        panel.talk(0);
        panel.declare(0, 0, false);
        Check.same("all count", panel.undoCount(), 5);
    }

    private static void refusedCalls() {
        PancakePanel panel = Panels.of(BASE + "seat a 0");
        Check.refused("bid", () -> panel.bid(3, 0, 1));
        Check.refused("assign", () -> panel.assign(0, 0));
        Check.refused("unassign", () -> panel.unassign(1, 0));
        Check.refused("score", () -> panel.score(0, 0, 10));
        Check.refused("talk", () -> panel.talk(0));
        Check.outside("declare", () -> panel.declare(0, 3, true));
        Check.outside("saveState", () -> panel.saveState(2));
        Check.outside("saveState below", () -> panel.saveState(-1));
        Check.same("none counts", panel.undoCount(), 0);
        Check.noPanel("nothing saved", () -> panel.restoreState(0));
    }

    private static void readingIsNoChange() {
        PancakePanel panel = Panels.of(BASE + "fill;score a 0 9;score b 0 1");
        panel.lackingAfterFilling();
        panel.spreadAfterTalk(0);
        panel.saveState(0);
        panel.writePancake(0);
        panel.writeBids(0);
        Check.same("undoCount", panel.undoCount(), 0);
        Check.same("talkCount", panel.talkCount(), 0);
    }

    private static void saving() {
        PancakePanel panel = Panels.of(BASE + "fill");
        Check.same("no scores", panel.saveState(0), 0);
        panel.score(0, 0, 9);
        panel.score(1, 0, 3);
        Check.same("two scores", panel.saveState(1), 2);
        panel.talk(0);
        Check.same("restore slot 1", panel.restoreState(1), 2);
        Check.same("before the talk", panel.scoreOf(0, 0) * 10 + panel.talkCount(), 90);
        Check.same("restore slot 0", panel.restoreState(0), 0);
        Check.same("before the scores", panel.scoreCount(0), 0);
        Check.same("restore slot 1 again", panel.restoreState(1), 2);
        Check.same("it stays saved", panel.scoreOf(1, 0), 3);
        panel.unassign(0, 0);
        Check.same("save over it", panel.saveState(1), 1);
        panel.unassign(1, 0);
        panel.restoreState(1);
        Check.same("the former one is lost", Panels.pancake(panel, 0), "b=3,c=?/300");
    }

    private static void restoring() {
        PancakePanel panel = Panels.of(BASE + "seat a 0");
        Check.outside("slot 2", () -> panel.restoreState(2));
        Check.outside("slot -1", () -> panel.restoreState(-1));
        Check.noPanel("empty slot", () -> panel.restoreState(1));
        panel.saveState(0);
        panel.bid(0, 0, 3);
        panel.declare(1, 1, true);
        panel.assign(1, 0);
        panel.fill();
        Check.noPanel("the other slot is empty", () -> panel.restoreState(1));
        Check.same("undoCount stays", panel.undoCount(), 4);
        panel.restoreState(0);
        Check.same("bid", panel.bidOf(0, 0), 0);
        Check.same("conflict", panel.conflict(1, 1), 0);
        Check.same("seats", Panels.seats(panel, 0), "0");
        Check.same("fillCount", panel.fillCount(), 0);
        Check.same("undoCount", panel.undoCount(), 0);
    }

    private static void undoAfterRestore() {
        PancakePanel panel = Panels.of(BASE + "seat a 0");
        panel.score(0, 0, 1);
        panel.saveState(0);
        panel.score(0, 0, 2);
        panel.restoreState(0);
        Check.noPanel("undo after restore", panel::undo);
        panel.score(0, 0, 3);
        Check.same("undo of the new change", panel.undo(), 0);
        Check.same("the restored state", panel.scoreOf(0, 0), 1);
        panel.score(0, 0, 4);
        panel.restoreState(0);
        Check.same("the saved one is not touched", panel.scoreOf(0, 0), 1);
    }

    private static void buffers() {
        PancakePanel panel = Panels.of(BASE + "fill");
        panel.saveState(0);
        panel.bid(0, 0, 1);
        panel.append(1, 2, 3, 4, 5);
        panel.undo();
        Check.same("buffer after undo", panel.bufferLength(), 20);
        panel.restoreState(0);
        Check.same("buffer after restore", panel.bufferLength(), 20);
        Check.refused("it is parsed then", () -> panel.parseSetup(20));
        Check.same("position", panel.parseErrorPosition(), 0);
        panel.undoCount();
        Check.same("error code stays", panel.parseErrorCode(), 1);
    }
}
