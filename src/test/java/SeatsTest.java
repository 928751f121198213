/** Promises 7 to 28, 42, 43, 47, 48, 52 to 55 and 58: persons, pancakes, conflicts, seats, filling. */
public final class SeatsTest {
    private static final int NONE = PancakePanel.NONE;
    // ann 0, bob 1, cy 2, dee 3 and eve 4, who is not a taster.
    private static final String PEOPLE = "panel 100 1;person ann 1;person bob 2;person cy 3;person dee 4;"
        + "person eve 5;taster ann 2 5 0 9 0;taster bob 3 7 1 0 0;taster cy 1 7 2 0 0;taster dee 6 1 1 1 1;";
    private static final String THREE = PEOPLE + "pancake 0 eve;pancake 2 dee eve;pancake 1 eve";

    public static void main(String[] args) {
        personsAndPancakes();
        bids();
        conflicts();
        favorites();
        seats();
        refusals();
        bestTasters();
        lacking();
        filling();
        fillingOrder();
        moves();
        moveOfOverloaded();
        moveSparesScores();
        moveFromFull();
        moveOrder();
        movePassesRefusedHeirs();
        givenUp();
        lateConflicts();
        Check.finish();
    }

    private static void personsAndPancakes() {
        PancakePanel panel = Panels.of(THREE);
        Check.same("pancakeCount", panel.pancakeCount(), 3);
        Check.same("topicOf(0)", panel.topicOf(0), 0);
        Check.same("topicOf(1)", panel.topicOf(1), 2);
        Check.same("cookCount(0)", panel.cookCount(0), 1);
        Check.same("cookCount(1)", panel.cookCount(1), 2);
        Check.same("cookAt(1, 0)", panel.cookAt(1, 0), 3);
        Check.same("cookAt(1, 1)", panel.cookAt(1, 1), 4);
        Check.outside("cookAt(1, 2)", () -> panel.cookAt(1, 2));
        Check.outside("cookAt(0, 1)", () -> panel.cookAt(0, 1));
        Check.same("personCount", panel.personCount(), 5);
        Check.same("nameLetter(1, 0)", panel.nameLetter(1, 0), 'b');
        Check.same("nameLetter(3, 2)", panel.nameLetter(3, 2), 'e');
        Check.same("nameLetter(3, 3)", panel.nameLetter(3, 3), NONE);
        Check.same("nameLetter(3, -1)", panel.nameLetter(3, -1), NONE);
        Check.same("nameLetter(2, 2)", panel.nameLetter(2, 2), NONE);
        Check.outside("nameLetter(5, 0)", () -> panel.nameLetter(5, 0));
        Check.same("kitchenOf(4)", panel.kitchenOf(4), 5);
        Check.isTrue("isTaster(3)", panel.isTaster(3));
        Check.isFalse("isTaster(4)", panel.isTaster(4));
        Check.same("limitOf(1)", panel.limitOf(1), 3);
        Check.same("limitOf(4)", panel.limitOf(4), 0);
        Check.same("tasteOf(0, 2)", panel.tasteOf(0, 2), 9);
        Check.same("tasteOf(1, 1)", panel.tasteOf(1, 1), 1);
        Check.same("tasteOf(4, 0)", panel.tasteOf(4, 0), 0);
        Check.outside("tasteOf(0, 4)", () -> panel.tasteOf(0, 4));
        Check.outside("tasteOf(0, -1)", () -> panel.tasteOf(0, -1));
        StringBuilder text = new StringBuilder("panel 0 0");
        for (int i = 0; i < 16; i++) {
            text.append(";person n").append((char) ('a' + i)).append(" 0");
        }
        PancakePanel full = Panels.of(text + ";pancake 0 np".repeat(10));
        Check.same("16 persons", full.personCount(), 16);
        Check.same("10 pancakes", full.pancakeCount(), 10);
        Check.same("last cook", full.cookAt(9, 0), 15);
        Check.same("last name", Panels.name(full, 15), "np");
        Check.outside("kitchenOf(16)", () -> full.kitchenOf(16));
        Check.outside("topicOf(10)", () -> full.topicOf(10));
    }

    private static void bids() {
        PancakePanel panel = Panels.of(THREE);
        Check.same("bid at first", panel.bidOf(0, 0), 0);
        Check.same("bid", panel.bid(0, 0, 3), 0);
        Check.same("bid again", panel.bid(0, 0, 1), 3);
        Check.same("bidOf", panel.bidOf(0, 0), 1);
        Check.same("bid of another", panel.bidOf(1, 0), 0);
        Check.same("preference", panel.preference(0, 0), 15);
        Check.same("preference for another topic", panel.preference(0, 1), 9);
        Check.same("preference of no taster", panel.preference(4, 1), 0);
        Check.refused("bid -1", () -> panel.bid(0, 0, -1));
        Check.refused("bid 4", () -> panel.bid(0, 0, 4));
        Check.refused("bid of no taster", () -> panel.bid(4, 0, 1));
        Check.same("bid stays", panel.bidOf(0, 0), 1);
        Check.same("bid to 0", panel.bid(0, 0, 0), 1);
        Check.same("undoCount", panel.undoCount(), 3);
        panel.bid(2, 0, 2);
        Check.same("a cook can bid", panel.bid(3, 1, 3), 0);
    }

    private static void conflicts() {
        PancakePanel panel = Panels.of("panel 0 0;person a 1;person b 1;person c 2;person d 3;person e 2;"
            + "taster b 1 1 1 1 1;taster c 1 1 1 1 1;taster d 1 1 1 1 1;"
            + "together a c;pancake 0 a;pancake 0 d a;pancake 0 c;conflict d 0;conflict a 0;conflict b 0;conflict c 0");
        Check.same("cook first", panel.conflict(0, 0), 1);
        Check.same("kitchen before declared", panel.conflict(1, 0), 2);
        Check.same("together before declared", panel.conflict(2, 0), 3);
        Check.same("declared", panel.conflict(3, 0), 4);
        Check.same("none", panel.conflict(4, 0), 0);
        Check.same("second cook", panel.conflict(0, 1), 1);
        Check.same("kitchen of the second cook", panel.conflict(1, 1), 2);
        Check.same("together with the second cook", panel.conflict(2, 1), 3);
        Check.same("together the other way", panel.conflict(0, 2), 3);
        Check.same("kitchen before together", panel.conflict(4, 2), 2);
        Check.same("conflictCount(0)", panel.conflictCount(0), 3);
        Check.same("conflictCount(2)", panel.conflictCount(2), 1);
        Check.isTrue("declare ends", panel.declare(3, 0, false));
        Check.same("ended", panel.conflict(3, 0), 0);
        Check.same("conflictCount after", panel.conflictCount(0), 2);
        Check.isFalse("declare", panel.declare(4, 0, true));
        Check.isTrue("declare again", panel.declare(4, 0, true));
        Check.same("declared of no taster", panel.conflict(4, 0), 4);
        Check.same("no taster is not counted", panel.conflictCount(0), 2);
        Check.same("each declare can be undone", panel.undoCount(), 3);
        panel.undo();
        panel.undo();
        Check.same("undone", panel.conflict(4, 0), 0);
    }

    private static void favorites() {
        PancakePanel panel = Panels.of(THREE);
        Check.same("favorite by taste", panel.favoriteOf(0), 1);
        Check.same("favorite of several", panel.favoriteOf(3), 0);
        Check.same("no favorite of a cook of all", panel.favoriteOf(4), NONE);
        panel.bid(0, 2, 1);
        Check.same("favorite by bid", panel.favoriteOf(0), 2);
        panel.declare(0, 2, true);
        Check.same("favorite without conflict", panel.favoriteOf(0), 1);
        panel.bid(3, 1, 3);
        Check.same("own pancake is no favorite", panel.favoriteOf(3), 0);
        panel.declare(3, 0, true);
        Check.same("favorite of the rest", panel.favoriteOf(3), 2);
        Check.same("favorite of no taster", Panels.of(THREE + ";person f 6").favoriteOf(5), 0);
        Check.same("no pancakes", Panels.of(PEOPLE + "fill").favoriteOf(0), NONE);
    }

    private static void seats() {
        PancakePanel panel = Panels.of(THREE);
        Check.same("no seats", panel.seatCount(0), 0);
        Check.outside("seatAt(0, 0)", () -> panel.seatAt(0, 0));
        Check.same("assign", panel.assign(3, 0), 1);
        Check.same("assign second", panel.assign(0, 0), 2);
        Check.same("assign third", panel.assign(1, 0), 3);
        Check.same("in order", Panels.seats(panel, 0), "3,0,1");
        Check.outside("seatAt(0, 3)", () -> panel.seatAt(0, 3));
        Check.outside("seatAt(0, -1)", () -> panel.seatAt(0, -1));
        Check.same("seatShare", panel.seatShare(), 3.0f / 9.0f);
        Check.same("unassign the first", panel.unassign(3, 0), 2);
        Check.same("others move up", Panels.seats(panel, 0), "0,1");
        Check.same("assign at the end", panel.assign(3, 0), 3);
        Check.same("new order", Panels.seats(panel, 0), "0,1,3");
        Check.same("unassign the middle", panel.unassign(1, 0), 2);
        Check.same("order after the middle", Panels.seats(panel, 0), "0,3");
        Check.refused("unassign without seat", () -> panel.unassign(1, 0));
        Check.refused("unassign at another", () -> panel.unassign(0, 1));
        Check.same("load", panel.loadOf(0), 1);
        panel.assign(0, 1);
        Check.same("load of two", panel.loadOf(0), 2);
        Check.same("load of none", panel.loadOf(4), 0);
        Check.same("imbalance", panel.imbalance(), 0);
        Check.same("fillCount without filling", panel.fillCount(), 0);
        Check.same("seatShare of three", panel.seatShare(), 3.0f / 9.0f);
    }

    private static void refusals() {
        PancakePanel panel = Panels.of(THREE + ";person fay 6;taster fay 1 0 0 0 0;conflict cy 2");
        Check.same("no taster, also with a conflict", panel.refusal(4, 0), 1);
        Check.same("conflict", panel.refusal(3, 1), 3);
        Check.same("declared", panel.refusal(2, 2), 3);
        Check.same("possible", panel.refusal(2, 0), 0);
        panel.assign(2, 0);
        Check.same("tastes already, before the limit", panel.refusal(2, 0), 2);
        Check.same("limit", panel.refusal(2, 1), 5);
        Check.same("conflict before the limit", panel.refusal(2, 2), 3);
        panel.declare(2, 0, true);
        Check.same("tastes already, before the conflict", panel.refusal(2, 0), 2);
        panel.assign(0, 0);
        panel.assign(1, 0);
        Check.same("three tasters", panel.refusal(3, 0), 4);
        panel.assign(5, 1);
        Check.same("three tasters before the limit", panel.refusal(5, 0), 4);
        panel.declare(5, 0, true);
        Check.same("conflict before three tasters", panel.refusal(5, 0), 3);
        Check.refused("assign refused", () -> panel.assign(5, 0));
        Check.same("a refused call counts not", panel.undoCount(), 6);
        PancakePanel over = Panels.of(THREE + ";seat ann 0;seat ann 1;limit ann 1");
        Check.same("more than the limit", over.refusal(0, 2), 5);
        Check.same("overloaded", over.imbalance(), 1);
    }

    private static void bestTasters() {
        PancakePanel panel = Panels.of(THREE);
        Check.same("smallest number of several", panel.bestTaster(0), 1);
        panel.assign(1, 2);
        Check.same("smallest load of several", panel.bestTaster(0), 2);
        panel.bid(3, 0, 1);
        Check.same("greatest preference", panel.bestTaster(0), 3);
        panel.assign(3, 0);
        Check.same("of those who can", panel.bestTaster(0), 2);
        panel.assign(2, 0);
        panel.assign(0, 0);
        Check.same("none when full", panel.bestTaster(0), NONE);
        Check.same("none without tasters", Panels.of("panel 0 0;person a 1;pancake 0 a").bestTaster(0), NONE);
    }

    private static void lacking() {
        PancakePanel panel = Panels.of(THREE);
        Check.same("lacking all", panel.lacking(), 9);
        Check.same("predicted", panel.lackingAfterFilling(), 1);
        Check.same("prediction changes nothing", panel.lacking(), 9);
        Check.same("prediction counts nothing", panel.fillCount() + panel.moveCount() + panel.undoCount(), 0);
        panel.assign(0, 0);
        panel.assign(1, 0);
        Check.same("lacking less", panel.lacking(), 7);
        PancakePanel poor = Panels.of("panel 0 0;person a 1;person b 2;taster a 6 0 0 0 0;pancake 0 b;pancake 0 a");
        Check.same("predicted lack", poor.lackingAfterFilling(), 5);
        poor.fill();
        Check.same("lack", poor.lacking(), 5);
    }

    private static void filling() {
        PancakePanel panel = Panels.of("panel 0 0;person a 1;person b 2;person c 3;person d 4;taster a 2 9 0 0 0;"
            + "taster b 2 5 5 0 0;taster c 1 1 1 0 0;pancake 0 d;pancake 1 d");
        // Four seats by preference, then c goes from 1 to 0, where b tastes already, and a is the heir.
        Check.same("fill", panel.fill(), 6);
        Check.same("seats at 0", Panels.seats(panel, 0), "0,1,2");
        Check.same("seats at 1", Panels.seats(panel, 1), "1,0");
        Check.same("fillCount", panel.fillCount(), 6);
        Check.same("moveCount", panel.moveCount(), 1);
        Check.same("lacking", panel.lacking(), 1);
        Check.same("fill again", panel.fill(), 0);
        Check.same("both can be undone", panel.undoCount(), 2);
        panel.undo();
        panel.undo();
        Check.same("undone", panel.lacking(), 6);
        Check.same("counts undone", panel.fillCount(), 0);
        panel.fill();
        panel.unassign(1, 1);
        Check.same("counts add up", panel.fill() + 10 * panel.fillCount(), 71);
    }

    private static void fillingOrder() {
        PancakePanel panel = Panels.of(PEOPLE + "pancake 0 eve;pancake 0 eve;seat ann 0;seat bob 0");
        panel.fill();
        Check.same("fewest first", Panels.seats(panel, 1), "2,1,0");
        Check.same("then the smallest number", Panels.seats(panel, 0), "0,1,3");
        Check.same("fillCount without the seats before", panel.fillCount(), 4);
        Check.same("moveCount without moves", panel.moveCount(), 0);
    }

    private static void moves() {
        // b can not go to 0, so a leaves 1 to b and goes to 0.
        PancakePanel panel = Panels.of("panel 0 0;person a 1;person b 2;person d 4;person e 2;taster a 1 0 0 0 0;"
            + "taster b 6 0 0 0 0;pancake 0 e;pancake 0 d;seat a 1");
        Check.same("predicted move", panel.lackingAfterFilling(), 4);
        Check.same("fill with a move", panel.fill(), 2);
        Check.same("mover", Panels.seats(panel, 0), "0");
        Check.same("heir", Panels.seats(panel, 1), "1");
        Check.same("moveCount", panel.moveCount(), 1);
        Check.same("fillCount", panel.fillCount(), 2);
        Check.same("imbalance", panel.imbalance(), 0);
        panel.undo();
        Check.same("move undone", Panels.seats(panel, 1), "0");
        Check.same("moveCount undone", panel.moveCount(), 0);
    }

    private static void moveOfOverloaded() {
        PancakePanel panel = Panels.of("panel 0 0;person a 1;person b 2;person d 4;person e 2;taster a 3 0 0 0 0;"
            + "taster b 1 0 0 0 0;pancake 0 e;pancake 0 d;pancake 0 d;seat a 1;seat a 2;limit a 1;score a 1 5");
        Check.same("overloaded", panel.imbalance(), 1);
        Check.same("fill", panel.fill(), 2);
        Check.same("mover with a lesser limit", Panels.seats(panel, 0), "0");
        Check.same("seat with a score stays", Panels.seats(panel, 1), "0");
        Check.same("heir", Panels.seats(panel, 2), "1");
        Check.same("load stays", panel.loadOf(0), 2);
    }

    private static void moveSparesScores() {
        PancakePanel panel = Panels.of("panel 0 0;person a 1;person b 2;person d 4;person e 2;taster a 1 0 0 0 0;"
            + "taster b 6 0 0 0 0;pancake 0 e;pancake 0 d;seat a 1;score a 1 9");
        Check.same("no move from a scored pancake", panel.fill(), 1);
        Check.same("not moved", Panels.seats(panel, 1), "0,1");
        Check.same("score stays", panel.scoreOf(0, 1), 9);
        Check.same("no move", panel.moveCount(), 0);
        panel.undo();
        panel.score(0, 1, 1);
        Check.same("not from the least score", panel.fill() + 10 * panel.moveCount(), 1);
    }

    private static void moveFromFull() {
        // h has a conflict with 0 and would be the fourth at 1, but for the one that leaves.
        PancakePanel panel = Panels.of("panel 0 0;person a 1;person b 2;person c 3;person h 5;person x 6;person y 5;"
            + "taster a 1 0 0 0 0;taster b 1 0 0 0 0;taster c 1 0 0 0 0;taster h 6 0 0 0 0;pancake 0 y;pancake 0 x;"
            + "seat a 1;seat b 1;seat c 1");
        Check.same("predicted", panel.lackingAfterFilling(), 2);
        Check.same("fill", panel.fill(), 2);
        Check.same("mover", Panels.seats(panel, 0), "0");
        Check.same("full again", Panels.seats(panel, 1), "1,2,3");
    }

    private static void moveOrder() {
        // Both a and b could move to 0 from 1 or 2; c and d could be heirs of both.
        String people = "panel 0 0;person a 1;person b 2;person c 3;person d 4;person x 5;person y 3;person z 4;"
            + "taster a 2 0 0 0 0;taster b 2 0 0 0 0;taster c 1 0 0 0 0;taster d 1 9 9 9 9;"
            + "pancake 0 y z;pancake 0 x;pancake 0 x;";
        PancakePanel panel = Panels.of(people + "seat b 2;seat b 1;seat a 2;seat a 1;conflict b 0");
        panel.fill();
        Check.same("smallest mover", Panels.seats(panel, 0), "0");
        Check.same("smallest left, smallest heir", Panels.seats(panel, 1), "1,2,3");
        Check.same("greater left stays", Panels.seats(panel, 2), "1,0");
        Check.same("one move and one seat", panel.moveCount() * 10 + panel.fillCount(), 13);
    }

    private static void movePassesRefusedHeirs() {
        // c tastes 1 already, d has a conflict, e is at its limit and f is no taster: g is the heir.
        PancakePanel panel = Panels.of("panel 0 0;person a 1;person b 2;person c 3;person d 4;person e 5;person f 6;"
            + "person g 7;person x 8;taster a 1 0 0 0 0;taster c 6 0 0 0 0;taster d 6 0 0 0 0;taster e 1 0 0 0 0;"
            + "taster g 1 0 0 0 0;pancake 0 b;pancake 0 x;pancake 0 x;conflict c 0;conflict d 0;conflict e 0;"
            + "conflict g 0;conflict d 1;seat c 1;seat a 1;seat e 2;conflict c 2;conflict d 2;conflict g 2");
        Check.same("fill", panel.fill(), 2);
        Check.same("mover", Panels.seats(panel, 0), "0");
        Check.same("heir comes last", Panels.seats(panel, 1), "2,6");
    }

    private static void givenUp() {
        PancakePanel panel = Panels.of("panel 0 0;person a 1;person b 2;person c 3;taster a 6 0 0 0 0;"
            + "taster b 6 0 0 0 0;taster c 6 0 0 0 0;pancake 0 a b c;pancake 0 a;pancake 0 b");
        Check.same("fill what is possible", panel.fill(), 4);
        Check.same("given up", panel.seatCount(0), 0);
        Check.same("the others", Panels.seats(panel, 1) + ";" + Panels.seats(panel, 2), "1,2;0,2");
        panel.declare(0, 2, true);
        Check.same("seat in conflict", panel.imbalance(), 1);
    }

    private static void lateConflicts() {
        PancakePanel panel = Panels.of(THREE + ";seat ann 0;seat bob 0;seat ann 1;score ann 0 5");
        panel.declare(0, 0, true);
        Check.same("seat stays", Panels.seats(panel, 0), "0,1");
        Check.same("score stays", panel.scoreOf(0, 0), 5);
        Check.same("one in conflict", panel.imbalance(), 1);
        Check.same("can still score", panel.score(0, 0, 6), 5);
        Check.same("can leave", panel.unassign(0, 0), 1);
        Check.same("balanced", panel.imbalance(), 0);
    }
}
