/** Promises 49 to 51: the output. */
public final class OutputTest {
    private static final String BASE = "panel 100 1;person abcdef 1;person b 2;person cc 3;person x 4;"
        + "taster abcdef 6 0 0 0 0;taster b 6 0 0 0 0;taster cc 6 0 0 0 0;pancake 0 x;pancake 0 x b;";

    public static void main(String[] args) {
        pancakes();
        bids();
        bytes();
        keeping();
        longest();
        Check.finish();
    }

    private static void pancakes() {
        PancakePanel panel = Panels.of(BASE + "fill");
        panel.unassign(0, 0);
        panel.assign(0, 0);
        Check.same("in order", Panels.pancake(panel, 0), "b=?,cc=?,abcdef=?/0");
        Check.same("length", panel.writePancake(0), 19);
        panel.score(2, 0, 7);
        Check.same("with a score", Panels.pancake(panel, 0), "b=?,cc=7,abcdef=?/700");
        panel.score(0, 0, 9);
        Check.same("with two scores", Panels.pancake(panel, 0), "b=?,cc=7,abcdef=9/800");
        panel.unassign(1, 0);
        panel.unassign(2, 0);
        Check.same("with one taster", Panels.pancake(panel, 0), "abcdef=9/900");
        panel.unassign(0, 0);
        Check.same("without tasters", Panels.pancake(panel, 0), "-/0");
        Check.same("length without tasters", panel.writePancake(0), 3);
    }

    private static void bids() {
        PancakePanel panel = Panels.of(BASE + "bid b 0 3;bid b 1 1;bid cc 1 2;seat b 0");
        Check.same("tastes and cooks", Panels.bids(panel, 1), "3*1!");
        Check.same("neither", Panels.bids(panel, 2), "02");
        Check.same("no taster", Panels.bids(panel, 3), "0!0!");
        Check.same("length", panel.writeBids(3), 4);
        panel.declare(1, 0, true);
        Check.same("a star alone", Panels.bids(panel, 1), "3*1!");
        panel.declare(2, 1, true);
        Check.same("declared", Panels.bids(panel, 2), "02!");
        PancakePanel none = Panels.of("panel 0 0;person a 1");
        Check.same("no pancakes", none.writeBids(0), 0);
        Check.outside("no bytes", () -> none.outputByte(0));
    }

    private static void bytes() {
        PancakePanel panel = Panels.of(BASE + "fill");
        Check.outside("before the first output", () -> panel.outputByte(0));
        panel.writePancake(1);
        Check.same("first byte", panel.outputByte(0), 'c');
        Check.same("last byte", panel.outputByte(14), '0');
        Check.outside("byte behind", () -> panel.outputByte(15));
        Check.outside("byte before", () -> panel.outputByte(-1));
        panel.writeBids(0);
        Check.same("replaced", panel.outputByte(1), '*');
        Check.outside("shorter", () -> panel.outputByte(4));
    }

    private static void keeping() {
        PancakePanel panel = Panels.of(BASE + "fill");
        panel.writePancake(0);
        Check.outside("no such pancake", () -> panel.writePancake(2));
        Check.outside("no such person", () -> panel.writeBids(4));
        Check.same("output stays", panel.outputByte(0), 'a');
        panel.saveState(0);
        panel.bid(0, 0, 3);
        panel.undo();
        panel.restoreState(0);
        Check.same("after undo and restore", panel.outputByte(7), '?');
        Check.refused("a bad setup", () -> Panels.parse(panel, "x"));
        Panels.parse(panel, "panel 0 0");
        Check.same("after a setup", panel.outputByte(0), 'a');
    }

    private static void longest() {
        String text = "panel 0 0;person abcdef 1;person bcdefg 2;person cdefgh 3;person x 4;taster abcdef 6 0 0 0 0;"
            + "taster bcdefg 6 0 0 0 0;taster cdefgh 6 0 0 0 0" + ";pancake 0 x".repeat(10);
        PancakePanel panel = Panels.of(text);
        for (int pancake = 0; pancake < 6; pancake++) {
            for (int person = 0; person < 3; person++) {
                panel.assign(person, pancake);
                panel.score(person, pancake, 9);
            }
        }
        panel.score(0, 0, 1);
        panel.score(1, 0, 1);
        panel.score(2, 0, 1);
        Check.same("longest name and score", Panels.pancake(panel, 0), "abcdef=1,bcdefg=1,cdefgh=1/100");
        Check.same("bids of ten", Panels.bids(panel, 0), "0*0*0*0*0*0*0000");
        Check.same("bids of a cook of ten", Panels.bids(panel, 3), "0!0!0!0!0!0!0!0!0!0!");
    }
}
