/** Promises 29 to 41, 44 to 46, 56 and 57: scores, means, spreads, talks, ranks. */
public final class ScoresTest {
    private static final int NONE = PancakePanel.NONE;
    // Persons 0 to 3 taste, 4 cooks all four pancakes.
    private static final String BASE = "panel 150 1;person a 1;person b 2;person c 3;person d 4;person x 5;"
        + "taster a 6 0 0 0 0;taster b 6 0 0 0 0;taster c 6 0 0 0 0;taster d 6 0 0 0 0;"
        + "pancake 0 x;pancake 0 x;pancake 0 x;pancake 0 x;"
        + "seat a 0;seat b 0;seat c 0;seat a 1;seat b 1;seat d 2;seat c 1;seat a 3";

    public static void main(String[] args) {
        scoring();
        means();
        adjusted();
        roundingTowardZero();
        negativeTotals();
        negativeBeforeNone();
        negativeRounding();
        spreads();
        threshold();
        ranks();
        accepted();
        talksOfThree();
        talksOfTwo();
        talkWithoutChange();
        predictedSpread();
        unassigning();
        Check.finish();
    }

    private static PancakePanel scored(String items) {
        return Panels.of(BASE + items);
    }

    private static void scoring() {
        PancakePanel panel = scored("");
        Check.same("no score", panel.scoreOf(0, 0), 0);
        Check.same("no scores", panel.scoreCount(0), 0);
        Check.same("score", panel.score(0, 0, 1), 0);
        Check.same("score again", panel.score(0, 0, 9), 1);
        Check.same("scoreOf", panel.scoreOf(0, 0), 9);
        Check.same("scoreOf another pancake", panel.scoreOf(0, 1), 0);
        Check.same("scoreOf another person", panel.scoreOf(1, 0), 0);
        Check.same("scoreCount", panel.scoreCount(0), 1);
        Check.refused("score 0", () -> panel.score(0, 0, 0));
        Check.refused("score 10", () -> panel.score(0, 0, 10));
        Check.refused("score without seat", () -> panel.score(3, 0, 5));
        Check.refused("score of the cook", () -> panel.score(4, 0, 5));
        Check.same("score stays", panel.scoreOf(0, 0), 9);
        Check.same("changes", panel.undoCount(), 2);
        panel.score(1, 0, 2);
        panel.score(2, 0, 3);
        Check.same("three scores", panel.scoreCount(0), 3);
    }

    private static void means() {
        PancakePanel panel = scored("");
        Check.same("no mean", panel.meanOf(0), NONE);
        Check.same("nobody", panel.harshest(), NONE);
        Check.same("average of none", panel.averageScore(), 0.0);
        panel.score(0, 0, 1);
        panel.score(0, 1, 2);
        panel.score(0, 3, 2);
        Check.same("rounded mean", panel.meanOf(0), 166);
        Check.same("mean of another", panel.meanOf(1), NONE);
        Check.same("average", panel.averageScore(), 5.0 / 3.0);
        Check.same("only one", panel.harshest(), 0);
        panel.score(2, 0, 1);
        Check.same("harsher", panel.harshest(), 2);
        panel.score(1, 0, 1);
        Check.same("smallest of several", panel.harshest(), 1);
        Check.same("average of five", panel.averageScore(), 7.0 / 5.0);
        panel.score(1, 1, 9);
        Check.same("mean of two", panel.meanOf(1), 500);
        Check.same("harshest then", panel.harshest(), 2);
    }

    private static void adjusted() {
        // Means: a 500, b 400, c 900; of all (8+2+4+9) * 100 / 4 = 575.
        PancakePanel panel = scored(";score a 0 8;score a 1 2;score b 0 4;score c 1 9");
        Check.same("adjusted of a at 0", panel.adjustedScore(0, 0), 875);
        Check.same("adjusted of a at 1", panel.adjustedScore(0, 1), 275);
        Check.same("adjusted of b", panel.adjustedScore(1, 0), 575);
        Check.same("adjusted of c", panel.adjustedScore(2, 1), 575);
        Check.same("no adjusted score", panel.adjustedScore(0, 3), NONE);
        Check.same("no adjusted score of no taster", panel.adjustedScore(4, 0), NONE);
        Check.same("total of 0", panel.totalOf(0), 725);
        Check.same("total of 1", panel.totalOf(1), 425);
        Check.same("total without scores", panel.totalOf(2), 0);
        Check.same("disagreement of a", panel.disagreement(0), 300);
        Check.same("disagreement of b", panel.disagreement(1), 150);
        Check.same("disagreement of nobody", panel.disagreement(3), 0);
    }

    private static void roundingTowardZero() {
        // Means: a 400/3 = 133, b 900; of all 1300 / 4 = 325. Adjusted at 0: 292 and 325.
        PancakePanel panel = scored(";score a 0 1;score a 1 1;score a 3 2;score b 0 9");
        Check.same("adjusted", panel.adjustedScore(0, 0), 292);
        Check.same("total rounded down", panel.totalOf(0), 308);
    }

    private static void negativeTotals() {
        // a gives 9 five times and 1 at pancake 0; the others give 1 seven times.
        String text = "panel 0 0;person a 1;person b 2;person c 3;person x 5;taster a 6 0 0 0 0;taster b 6 0 0 0 0;"
            + "taster c 6 0 0 0 0;pancake 0 x;pancake 0 x;pancake 0 x;pancake 0 x;pancake 0 x;pancake 0 x;fill;"
            + "score a 0 1;score a 1 9;score a 2 9;score a 3 9;score a 4 9;score a 5 9";
        PancakePanel panel = Panels.of(text);
        for (int person = 1; person <= 2; person++) {
            for (int pancake = 1; pancake <= 5; pancake++) {
                panel.score(person, pancake, 1);
            }
        }
        // Mean of a 4600 / 6 = 766, of all 5600 / 16 = 350.
        Check.same("negative adjusted", panel.adjustedScore(0, 0), -316);
        Check.same("negative total", panel.totalOf(0), -316);
        Check.same("written", Panels.pancake(panel, 0), "a=1,b=?,c=?/-316");
        panel.score(1, 0, 2);
        // Mean of b 700 / 6 = 116, of all 5800 / 17 = 341: adjusted -325 and 425.
        Check.same("total of both signs", panel.totalOf(0), 50);
        panel.score(1, 0, 1);
        // Mean of b 100, of all 5700 / 17 = 335: adjusted -331 and 335.
        Check.same("total rounded", panel.totalOf(0), 2);
        // c: 100, all 5800 / 18 = 322: -344, 322, 322.
        panel.score(2, 0, 1);
        Check.same("total of three", panel.totalOf(0), 100);
        Check.same("rank of the last", panel.rankOf(0), 5);
    }

    private static void negativeBeforeNone() {
        PancakePanel panel = Panels.of("panel 0 0;person a 1;person b 2;person c 3;person x 5;taster a 6 0 0 0 0;"
            + "taster b 6 0 0 0 0;taster c 6 0 0 0 0;pancake 0 x;pancake 0 x;pancake 0 x;pancake 0 x;pancake 0 x;"
            + "pancake 0 x;fill");
        for (int pancake = 1; pancake <= 4; pancake++) {
            panel.score(0, pancake, 9);
            panel.score(1, pancake, 1);
            panel.score(2, pancake, 1);
        }
        panel.score(0, 5, 1);
        // Mean of a 3700 / 5 = 740, of all 4500 / 13 = 346.
        Check.same("negative total", panel.totalOf(5), -294);
        Check.same("rank of a negative total", panel.rankOf(5), 4);
        Check.same("rank without scores", panel.rankOf(0), 5);
    }

    private static void negativeRounding() {
        PancakePanel panel = Panels.of("panel 0 9;person a 1;person b 2;person c 3;person d 4;person x 5;"
            + "taster a 6 0 0 0 0;taster b 6 0 0 0 0;taster c 6 0 0 0 0;taster d 6 0 0 0 0;"
            + "pancake 0 x;pancake 0 x;pancake 0 x;pancake 0 x;pancake 0 x;"
            + "seat a 0;seat a 1;seat b 0;seat b 1;seat a 2;seat b 2;seat c 3;seat c 4;seat d 3;seat d 4;"
            + "score a 0 1;score a 1 9;score a 2 9");
        panel.score(1, 0, 1);
        panel.score(1, 1, 9);
        panel.score(1, 2, 8);
        panel.score(2, 3, 1);
        panel.score(2, 4, 1);
        panel.score(3, 3, 1);
        panel.score(3, 4, 1);
        // Mean of a 633, of b 600, of all 4100 / 10 = 410: adjusted -123 and -90, their sum -213.
        Check.same("adjusted of a", panel.adjustedScore(0, 0), -123);
        Check.same("adjusted of b", panel.adjustedScore(1, 0), -90);
        Check.same("total of -213 / 2", panel.totalOf(0), -106);
        Check.same("spread of two negative ones", panel.spreadOf(0), 33);
        Check.same("written", Panels.pancake(panel, 0), "a=1,b=1/-106");
    }

    private static void spreads() {
        PancakePanel panel = scored("");
        Check.same("spread of none", panel.spreadOf(0), 0);
        panel.score(0, 0, 9);
        panel.score(0, 1, 1);
        Check.same("spread of one", panel.spreadOf(0), 0);
        panel.score(1, 0, 1);
        // Means 500 and 100, of all 366: adjusted 766 and 366.
        Check.same("spread of two", panel.spreadOf(0), 400);
        panel.score(2, 0, 5);
        panel.score(2, 1, 9);
        // c 700, of all 2500 / 5 = 500: 900, 500, 300.
        Check.same("spread of three", panel.spreadOf(0), 600);
        Check.same("spread of the other", panel.spreadOf(1), 600);
    }

    private static void threshold() {
        for (int threshold = 399; threshold <= 401; threshold++) {
            PancakePanel panel = Panels.of("panel " + threshold + BASE.substring(9)
                + ";score a 0 9;score a 1 1;score b 0 1");
            Check.same("spread", panel.spreadOf(0), 400);
            Check.same("needsTalk", panel.needsTalk(0) ? 1 : 0, threshold < 400 ? 1 : 0);
            Check.isFalse("needsTalk of one", panel.needsTalk(1));
            Check.isFalse("needsTalk of none", panel.needsTalk(2));
        }
        Check.isFalse("spread 0 with threshold 0",
            Panels.of("panel 0" + BASE.substring(9) + ";score a 0 9;score b 0 9").needsTalk(0));
    }

    private static void ranks() {
        PancakePanel panel = scored("");
        for (int i = 0; i < 4; i++) {
            Check.same("rank without scores", panel.rankOf(i), i);
            Check.same("pancakeAt without scores", panel.pancakeAt(i), i);
        }
        Check.outside("pancakeAt(4)", () -> panel.pancakeAt(4));
        Check.outside("pancakeAt(-1)", () -> panel.pancakeAt(-1));
        panel.score(3, 2, 5);
        Check.same("scored first", panel.rankOf(2), 0);
        Check.same("then by number", panel.rankOf(0), 1);
        Check.same("last", panel.pancakeAt(3), 3);
        panel.score(0, 3, 4);
        panel.score(0, 1, 8);
        // Means a 600, d 500, of all 566: totals 1: 766, 2: 566, 3: 366.
        Check.same("best", panel.pancakeAt(0), 1);
        Check.same("second", panel.pancakeAt(1), 2);
        Check.same("third", panel.pancakeAt(2), 3);
        Check.same("without scores", panel.pancakeAt(3), 0);
        panel.score(0, 1, 4);
        closeTotals();
        Check.same("equals by number", panel.rankOf(1) + 10 * panel.rankOf(2) + 100 * panel.rankOf(3), 210);
    }

    private static void closeTotals() {
        // Means a 133, b 500, c 166, of all 200: totals 0: (267 + 200) / 2, 1: 234, 2: 200, 3: 150.
        PancakePanel panel = Panels.of(BASE.substring(0, BASE.indexOf(";seat")) + ";seat a 0;seat b 0;seat c 1;seat a 2;"
            + "seat c 2;seat a 3;seat c 3;score a 0 2;score a 2 1;score a 3 1;score b 0 5;score c 1 2;score c 2 2;"
            + "score c 3 1");
        Check.same("total rounded", panel.totalOf(0), 233);
        Check.same("total greater by 1", panel.totalOf(1), 234);
        Check.same("rank of the greater one", panel.rankOf(1), 0);
        Check.same("rank of the lesser one", panel.rankOf(0), 1);
        Check.same("third", panel.pancakeAt(2), 2);
    }

    private static void accepted() {
        for (int places = 0; places <= 3; places++) {
            PancakePanel panel = Panels.of("panel 150 " + places + BASE.substring(11)
                + ";score a 3 4;score a 1 8;score d 2 5");
            Check.same("first", panel.isAccepted(1) ? 1 : 0, places > 0 ? 1 : 0);
            Check.same("second", panel.isAccepted(2) ? 1 : 0, places > 1 ? 1 : 0);
            Check.same("third", panel.isAccepted(3) ? 1 : 0, places > 2 ? 1 : 0);
        }
        PancakePanel all = Panels.of("panel 150 10" + BASE.substring(11) + ";score a 0 9;score a 1 1;score b 0 1");
        Check.isFalse("needs a talk", all.isAccepted(0));
        Check.isTrue("one score", all.isAccepted(1));
        Check.isFalse("no scores", all.isAccepted(2));
    }

    private static void talksOfThree() {
        PancakePanel panel = scored(";score a 0 9;score b 0 3;score c 0 5;score a 1 9");
        Check.same("talk", panel.talk(0), 2);
        Check.same("talked", Panels.pancake(panel, 0).substring(0, 11), "a=8,b=4,c=5");
        Check.same("the other stays", panel.scoreOf(0, 1), 9);
        Check.same("talkCount", panel.talkCount(), 1);
        Check.same("changeCount", panel.changeCount(), 2);
        Check.same("talk again", panel.talk(0), 1);
        Check.same("talked again", Panels.pancake(panel, 0).substring(0, 11), "a=7,b=4,c=5");
        Check.same("changeCount then", panel.changeCount(), 3);
        panel.undo();
        Check.same("talkCount undone", panel.talkCount(), 1);
        Check.same("changeCount undone", panel.changeCount(), 2);
        Check.same("score undone", panel.scoreOf(0, 0), 8);
        PancakePanel equal = scored(";score a 0 9;score b 0 9;score c 0 1");
        Check.same("one of three", equal.talk(0), 1);
        Check.same("toward two equals", equal.scoreOf(2, 0), 2);
        Check.same("average follows", equal.averageScore(), 20.0 / 3.0);
    }

    private static void talksOfTwo() {
        PancakePanel panel = scored(";score a 0 1;score c 0 9");
        Check.same("talk of two", panel.talk(0), 1);
        Check.same("the smaller one stays", panel.scoreOf(0, 0), 1);
        Check.same("the greater one comes", panel.scoreOf(2, 0), 8);
        for (int i = 0; i < 6; i++) {
            panel.talk(0);
        }
        Check.same("until the difference is 1", panel.scoreOf(2, 0), 2);
        Check.same("talk without change", panel.talk(0), 0);
        Check.refused("talk of one", () -> scored(";score a 0 1").talk(0));
        Check.refused("talk of none", () -> panel.talk(1));
        Check.same("refused talks count not", panel.talkCount(), 8);
        Check.same("changes", panel.changeCount(), 7);
    }

    private static void talkWithoutChange() {
        PancakePanel panel = scored(";score a 0 5;score b 0 6;score c 0 4");
        Check.same("talk", panel.talk(0), 0);
        Check.same("talkCount", panel.talkCount(), 1);
        Check.same("changeCount", panel.changeCount(), 0);
        Check.same("can be undone", panel.undoCount(), 1);
        Check.same("undo", panel.undo(), 0);
        Check.same("talk undone", panel.talkCount(), 0);
    }

    private static void predictedSpread() {
        PancakePanel panel = scored(";score a 0 9;score a 1 1;score b 0 1");
        // After the talk 8, 1 and 1: means a 450, b 100, all 333: adjusted 683 and 333.
        Check.same("predicted", panel.spreadAfterTalk(0), 350);
        Check.same("nothing changed", panel.scoreOf(0, 0), 9);
        Check.same("nothing counted", panel.talkCount() + panel.changeCount() + panel.undoCount(), 0);
        panel.talk(0);
        Check.same("came true", panel.spreadOf(0), 350);
        Check.same("spread without talk", panel.spreadAfterTalk(1), 0);
        Check.same("spread without scores", panel.spreadAfterTalk(2), 0);
    }

    private static void unassigning() {
        PancakePanel panel = scored(";score a 0 9;score b 0 5");
        Check.same("unassign", panel.unassign(0, 0), 2);
        Check.same("score gone", panel.scoreOf(0, 0), 0);
        Check.same("scoreCount", panel.scoreCount(0), 1);
        Check.same("mean gone", panel.meanOf(0), NONE);
        Check.same("average", panel.averageScore(), 5.0);
        panel.assign(0, 0);
        Check.same("no score after a new seat", panel.scoreOf(0, 0), 0);
        panel.undo();
        panel.undo();
        Check.same("score is back", panel.scoreOf(0, 0), 9);
        Check.same("average is back", panel.averageScore(), 7.0);
    }
}
