/** Sections 1 to 6, sentence by sentence: persons, pancakes, conflicts, seats, filling, scores, talks. */
public final class TermsEdgesTest {
    private static final int NONE = PancakePanel.NONE;
    // a, b, c and d taste, x cooks all four pancakes.
    private static final String FOUR = "panel 0 0;person a 1;person b 2;person c 3;person d 4;person x 5;"
        + "taster a 6 0 0 0 0;taster b 6 0 0 0 0;taster c 6 0 0 0 0;taster d 6 0 0 0 0;"
        + "pancake 0 x;pancake 1 x;pancake 2 x;pancake 3 x";

    private TermsEdgesTest() {
    }

    public static void main(String[] args) {
        persons();
        pancakes();
        cooks();
        bidsAtFirst();
        noTasters();
        reasonsOfConflict();
        conflictsByEachCook();
        togetherBothWays();
        threeSeats();
        reasonsOfRefusal();
        limits();
        preferences();
        bestByPreference();
        bestByLoad();
        bestByNumber();
        fewestFirst();
        smallestPancakeFirst();
        seatsBeforeMoves();
        givenUpForThisFilling();
        fullPancakes();
        smallestMover();
        smallestLeft();
        smallestHeir();
        leftBeforeHeir();
        moverIsNoHeir();
        moverWithoutScore();
        moverForReasonFive();
        moverAboveLimit();
        moveFromPancakeZero();
        moveFromFull();
        heirsThatCanNot();
        means();
        adjustedScores();
        totalsTowardZero();
        totalsOfThreeTowardZero();
        spreads();
        ranks();
        middles();
        talksByMoreThanOne();
        talksWithoutChange();
        Check.finish();
    }

    // ---- 1. persons and pancakes

    private static void persons() {
        StringBuilder text = new StringBuilder("panel 0 0");
        for (int i = 0; i < 16; i++) {
            text.append(";person ").append((char) ('a' + i)).append(' ').append(i % 10);
        }
        PancakePanel panel = Panels.of(text.toString());
        Check.same("at most 16 persons", panel.personCount(), 16);
        for (int i = 0; i < 16; i++) {
            Check.same("name of " + i, panel.nameLetter(i, 0), 'a' + i);
            Check.same("kitchen of " + i, panel.kitchenOf(i), i % 10);
        }
        Check.same("the 17th", error(text + ";person q 0"), PancakePanel.LIMIT_ERROR);
        Check.same("no two have the same name", error("panel 0 0;person a 1;person a 2"), PancakePanel.NAME_ERROR);
        Check.same("names of 7 letters", error("panel 0 0;person abcdefg 1"), PancakePanel.RANGE_ERROR);
        PancakePanel names = Panels.of("panel 0 0;person a 1;person zzzzzz 1");
        Check.same("a name of 1 letter", names.nameLetter(0, 0) * 1000 + names.nameLetter(0, 1), 96999);
        Check.same("a name of 6 letters", names.nameLetter(1, 5) * 1000 + names.nameLetter(1, 6), 121999);
    }

    private static int error(String text) {
        PancakePanel panel = new PancakePanel();
        Check.refused(text, () -> Panels.parse(panel, text));
        return panel.parseErrorCode();
    }

    private static void pancakes() {
        PancakePanel panel = Panels.of("panel 0 0;person a 1;pancake 3 a" + ";pancake 1 a".repeat(9));
        Check.same("at most 10 pancakes", panel.pancakeCount(), 10);
        Check.same("numbered from 0", panel.topicOf(0), 3);
        Check.same("to 9", panel.topicOf(9), 1);
        Check.same("the 11th", error("panel 0 0;person a 1" + ";pancake 0 a".repeat(11)), PancakePanel.LIMIT_ERROR);
        Check.same("none", Panels.of("panel 0 0;person a 1").pancakeCount(), 0);
    }

    private static void cooks() {
        PancakePanel panel = Panels.of(FOUR + ";pancake 0 d b c;pancake 0 b d");
        Check.same("three cooks", panel.cookCount(4), 3);
        Check.same("in their order", panel.cookAt(4, 0) * 100 + panel.cookAt(4, 1) * 10 + panel.cookAt(4, 2), 312);
        Check.same("two cooks", panel.cookCount(5), 2);
        Check.same("in another order", panel.cookAt(5, 0) * 10 + panel.cookAt(5, 1), 13);
        Check.same("no cook", error(FOUR + ";pancake 0"), PancakePanel.SYNTAX_ERROR);
        Check.same("a fourth cook", error(FOUR + ";pancake 0 a b c d"), PancakePanel.LIMIT_ERROR);
        Check.same("different cooks", error(FOUR + ";pancake 0 a a"), PancakePanel.NAME_ERROR);
    }

    private static void bidsAtFirst() {
        PancakePanel panel = Panels.of(FOUR);
        for (int person = 0; person < 5; person++) {
            for (int pancake = 0; pancake < 4; pancake++) {
                Check.same("a bid at first", panel.bidOf(person, pancake), 0);
            }
        }
    }

    private static void noTasters() {
        PancakePanel panel = Panels.of(FOUR);
        Check.isFalse("x is no taster", panel.isTaster(4));
        Check.same("limit", panel.limitOf(4), 0);
        for (int topic = 0; topic < 4; topic++) {
            Check.same("taste of no taster", panel.tasteOf(4, topic), 0);
            Check.same("preference of no taster", panel.preference(4, topic), 0);
        }
        PancakePanel edges = Panels.of("panel 0 0;person a 1;taster a 6 9 0 9 0;person b 0;taster b 1 0 9 0 9");
        Check.same("greatest limit", edges.limitOf(0), 6);
        Check.same("least limit", edges.limitOf(1), 1);
        Check.same("tastes of a", edges.tasteOf(0, 0) * 10 + edges.tasteOf(0, 3), 90);
        Check.same("tastes of b", edges.tasteOf(1, 0) * 10 + edges.tasteOf(1, 3), 9);
    }

    // ---- 2. conflicts

    private static void reasonsOfConflict() {
        // x cooks; y has the kitchen of x; z has cooked together with x; w has only what is declared.
        String text = "panel 0 0;person x 1;person y 1;person z 2;person w 3;person v 4;together x y;together x z;"
            + "pancake 0 x;conflict x 0;conflict y 0;conflict z 0;conflict w 0";
        PancakePanel panel = Panels.of(text);
        Check.same("1 ahead of 2, 3 and 4", panel.conflict(0, 0), 1);
        Check.same("2 ahead of 3 and 4", panel.conflict(1, 0), 2);
        Check.same("3 ahead of 4", panel.conflict(2, 0), 3);
        Check.same("4", panel.conflict(3, 0), 4);
        Check.same("none", panel.conflict(4, 0), 0);
        for (int person = 0; person < 4; person++) {
            Check.isTrue("declared", panel.declare(person, 0, false));
        }
        Check.same("1 without 4", panel.conflict(0, 0), 1);
        Check.same("2 without 4", panel.conflict(1, 0), 2);
        Check.same("3 without 4", panel.conflict(2, 0), 3);
        Check.same("4 ended", panel.conflict(3, 0), 0);
        PancakePanel moved = Panels.of(text + ";kitchen y 9;kitchen v 1");
        Check.same("2 ended, so 3", moved.conflict(1, 0), 3);
        Check.same("2 by a later kitchen", moved.conflict(4, 0), 2);
    }

    private static void conflictsByEachCook() {
        for (int place = 0; place < 3; place++) {
            String[] cooks = {"p", "q", "r"};
            cooks[place] = "x";
            PancakePanel panel = Panels.of("panel 0 0;person x 1;person p 2;person q 3;person r 4;person y 1;"
                + "person z 5;together z x;pancake 0 " + String.join(" ", cooks));
            Check.same("cook in place " + place, panel.conflict(0, 0), 1);
            Check.same("kitchen of the cook in place " + place, panel.conflict(4, 0), 2);
            Check.same("together with the cook in place " + place, panel.conflict(5, 0), 3);
        }
        PancakePanel both = Panels.of("panel 0 0;person x 1;person y 2;person z 2;together z x;pancake 0 x y;"
            + "pancake 0 y x");
        Check.same("kitchen of the second ahead of together with the first", both.conflict(2, 0), 2);
        Check.same("kitchen of the first ahead of together with the second", both.conflict(2, 1), 2);
    }

    private static void togetherBothWays() {
        PancakePanel panel = Panels.of("panel 0 0;person a 1;person b 2;person c 3;together a b;pancake 0 a;"
            + "pancake 0 b");
        Check.same("b with the pancake of a", panel.conflict(1, 0), 3);
        Check.same("a with the pancake of b", panel.conflict(0, 1), 3);
        Check.same("c with none", panel.conflict(2, 0) + panel.conflict(2, 1), 0);
    }

    // ---- 3. seats

    private static void threeSeats() {
        PancakePanel panel = Panels.of(FOUR);
        Check.same("the first", panel.assign(2, 0), 1);
        Check.same("the second", panel.assign(0, 0), 2);
        Check.same("the third", panel.assign(3, 0), 3);
        Check.same("in the order of their seats", Panels.seats(panel, 0), "2,0,3");
        Check.same("the fourth", panel.refusal(1, 0), 4);
        Check.refused("the fourth", () -> panel.assign(1, 0));
        Check.same("still three", panel.seatCount(0), 3);
        panel.unassign(2, 0);
        Check.same("a seat is free", panel.refusal(1, 0), 0);
        panel.assign(1, 0);
        Check.same("the new one is last", Panels.seats(panel, 0), "0,3,1");
    }

    private static void reasonsOfRefusal() {
        PancakePanel panel = Panels.of(FOUR + ";limit d 1;person e 6;taster e 1 0 0 0 0;person f 7;seat a 0;seat b 0;"
            + "seat c 0;seat d 1;conflict a 0;conflict d 0;conflict e 0;conflict e 2;seat e 1;conflict e 1;"
            + "seat b 1;conflict f 0;limit b 1");
        Check.same("1 ahead of 3 and 4", panel.refusal(4, 0), 1);
        Check.same("1 ahead of a declared conflict", panel.refusal(6, 0), 1);
        Check.same("1 alone", panel.refusal(6, 2), 1);
        Check.same("2 ahead of 3 and 4", panel.refusal(0, 0), 2);
        Check.same("2 ahead of 4 and 5", panel.refusal(1, 0), 2);
        Check.same("2 ahead of 3, 4 and 5", panel.refusal(5, 1), 2);
        Check.same("3 ahead of 4 and 5", panel.refusal(3, 0), 3);
        Check.same("3 ahead of 5", panel.refusal(5, 2), 3);
        Check.same("4", panel.refusal(2, 1), 4);
        Check.same("5", panel.refusal(3, 2), 5);
        Check.same("none", panel.refusal(2, 2), 0);
        PancakePanel full = Panels.of(FOUR + ";limit d 1;seat d 1;seat a 0;seat b 0;seat c 0");
        Check.same("4 ahead of 5", full.refusal(3, 0), 4);
    }

    private static void limits() {
        PancakePanel panel = Panels.of(FOUR + ";limit a 2");
        Check.same("below the limit", panel.refusal(0, 0), 0);
        panel.assign(0, 0);
        Check.same("one below the limit", panel.refusal(0, 1), 0);
        panel.assign(0, 1);
        Check.same("as many as the limit", panel.refusal(0, 2), 5);
        PancakePanel more = Panels.of(FOUR + ";seat a 0;seat a 1;seat a 2;limit a 2");
        Check.same("more than the limit", more.refusal(0, 3), 5);
        more.unassign(0, 0);
        Check.same("still as many", more.refusal(0, 3), 5);
        more.unassign(0, 1);
        Check.same("less again", more.refusal(0, 3), 0);
        StringBuilder six = new StringBuilder(FOUR + ";pancake 0 x;pancake 0 x;pancake 0 x");
        for (int pancake = 0; pancake < 6; pancake++) {
            six.append(";seat a ").append(pancake);
        }
        Check.same("six of the greatest limit", Panels.of(six.toString()).refusal(0, 6), 5);
    }

    private static void preferences() {
        PancakePanel panel = Panels.of("panel 0 0;person a 1;person x 2;taster a 1 9 0 5 1;pancake 0 x;pancake 1 x;"
            + "pancake 2 x;pancake 3 x;bid a 0 3;bid a 1 3;bid a 3 1");
        Check.same("greatest bid and taste", panel.preference(0, 0), 39);
        Check.same("bid alone", panel.preference(0, 1), 30);
        Check.same("taste alone", panel.preference(0, 2), 5);
        Check.same("both", panel.preference(0, 3), 11);
        PancakePanel swapped = Panels.of("panel 0 0;person a 1;person x 2;taster a 1 9 0 5 1;pancake 0 x;pancake 1 x;"
            + "bid a 0 3;swap 0 1");
        Check.same("for the topic, not the number", swapped.preference(0, 0) * 100 + swapped.preference(0, 1), 3009);
    }

    private static void bestByPreference() {
        PancakePanel panel = Panels.of(FOUR + ";bid d 0 1;bid b 0 2;seat b 1;seat b 2");
        Check.same("the greatest preference, also with a greater load", panel.bestTaster(0), 1);
        panel.declare(1, 0, true);
        Check.same("of those who can", panel.bestTaster(0), 3);
        panel.assign(3, 0);
        Check.same("not one who tastes it already", panel.bestTaster(0), 0);
        PancakePanel close = Panels.of("panel 0 0;person a 1;person b 2;person x 3;taster a 1 9 0 0 0;"
            + "taster b 1 0 0 0 0;pancake 0 x;bid b 0 1");
        Check.same("10 ahead of 9", close.bestTaster(0), 1);
    }

    private static void bestByLoad() {
        PancakePanel panel = Panels.of(FOUR + ";seat a 1;seat a 2;seat b 1;seat c 1;seat d 2;seat d 3");
        Check.same("loads 2, 1, 1 and 2", panel.bestTaster(0), 1);
        panel.unassign(2, 1);
        Check.same("loads 2, 1, 0 and 2", panel.bestTaster(0), 2);
    }

    private static void bestByNumber() {
        PancakePanel panel = Panels.of(FOUR);
        Check.same("all are equal", panel.bestTaster(0), 0);
        panel.declare(0, 0, true);
        Check.same("all but one", panel.bestTaster(0), 1);
        for (int person = 1; person < 4; person++) {
            panel.declare(person, 0, true);
        }
        Check.same("none", panel.bestTaster(0), NONE);
    }

    // ---- 4. filling

    /** The seats at all pancakes after a filling of the setup, with the answer ahead. */
    private static String filled(String text) {
        PancakePanel panel = Panels.of(text);
        int predicted = panel.lackingAfterFilling();
        int lacking = panel.lacking();
        StringBuilder seats = new StringBuilder().append(panel.fill()).append(':');
        for (int pancake = 0; pancake < panel.pancakeCount(); pancake++) {
            seats.append(pancake == 0 ? "" : " ").append(Panels.seats(panel, pancake));
        }
        Check.same(text + " predicted", predicted, panel.lacking());
        Check.same(text + " counted", panel.fillCount(), lacking - panel.lacking() + panel.moveCount());
        Check.same(text + " again", panel.fill(), 0);
        return seats.append(" moves ").append(panel.moveCount()).toString();
    }

    private static void fewestFirst() {
        String one = "panel 0 0;person a 1;person b 2;person c 3;person x 5;taster a 6 0 0 0 0;taster b 6 0 0 0 0;"
            + "taster c 1 0 0 0 0;pancake 0 x;pancake 0 x;conflict a 0;conflict a 1;conflict b 0;conflict b 1";
        Check.same("of none and one", filled(one.replace(";conflict a 0", "") + ";seat a 0"), "1:0 2 moves 0");
        Check.same("of one and two", filled(one.replace(";conflict a 0;conflict a 1;conflict b 0", "")
            + ";seat a 0;seat b 0;seat a 1"), "1:0,1 0,2 moves 0");
    }

    private static void smallestPancakeFirst() {
        String one = "panel 0 0;person a 1;person x 5;taster a 1 0 0 0 0;pancake 0 x;pancake 0 x;pancake 0 x";
        Check.same("of three", filled(one), "1:0   moves 0");
        Check.same("of those that can be filled", filled(one + ";conflict a 0"), "1: 0  moves 0");
    }

    private static void seatsBeforeMoves() {
        // a could move to 0 and leave 1 to b; but b can taste 0 by itself.
        Check.same("the best taster", filled("panel 0 0;person a 1;person b 2;person x 5;taster a 1 0 0 0 0;"
            + "taster b 1 0 0 0 0;pancake 0 x;pancake 0 x;seat a 1"), "1:1 0 moves 0");
    }

    private static void givenUpForThisFilling() {
        PancakePanel panel = Panels.of(FOUR + ";conflict a 0;conflict b 0;conflict c 0;conflict d 0");
        Check.same("0 is given up, the others are filled", panel.fill(), 9);
        Check.same("nobody at 0", panel.seatCount(0), 0);
        panel.declare(2, 0, false);
        Check.same("the next filling takes it again", panel.fill(), 1);
        Check.same("the one without conflict", Panels.seats(panel, 0), "2");
        Check.same("both are counted", panel.fillCount(), 10);
    }

    private static void fullPancakes() {
        Check.same("three of four tasters", filled("panel 0 0;person a 1;person b 2;person c 3;person d 4;person x 5;"
            + "taster a 6 0 0 0 0;taster b 6 0 0 0 0;taster c 6 0 0 0 0;taster d 6 0 0 0 0;pancake 0 x"),
            "3:0,1,2 moves 0");
        // Among equal preferences the loads go round: each gets one seat, then each a second one, then each a third.
        Check.same("all are full", filled(FOUR), "12:0,1,2 1,0,3 2,3,0 3,2,1 moves 0");
        Check.same("no pancakes", filled("panel 0 0;person a 1;taster a 6 0 0 0 0"), "0: moves 0");
        Check.same("no tasters", filled("panel 0 0;person a 1;pancake 0 a"), "0: moves 0");
    }

    private static final String MOVES = "panel 0 0;person a 1;person b 2;person h 3;person x 5;pancake 0 x;"
        + "pancake 0 x;";

    private static void smallestMover() {
        // a could leave 2 and b could leave 1 to h; the mover counts first, not the pancake that is left.
        Check.same("a moves", filled(MOVES + "pancake 0 x;taster a 1 0 0 0 0;taster b 1 0 0 0 0;taster h 1 0 0 0 0;"
            + "conflict h 0;seat a 2;seat b 1"), "2:0 1 2 moves 1");
    }

    private static void smallestLeft() {
        Check.same("a leaves 1, not 2", filled(MOVES + "pancake 0 x;taster a 2 0 0 0 0;taster b 1 0 0 0 0;"
            + "conflict b 0;seat a 2;seat a 1"), "2:0 1 0 moves 1");
    }

    private static void smallestHeir() {
        // b inherits; h gets a seat at 1 only after that.
        Check.same("b inherits, not h", filled(MOVES + "taster a 1 0 0 0 0;taster b 1 0 0 0 0;taster h 1 0 0 0 0;"
            + "conflict b 0;conflict h 0;seat a 1"), "3:0 1,2 moves 1");
    }

    private static void leftBeforeHeir() {
        // h can inherit 1 alone, b 2 alone: the pancake that is left counts first. Then a leaves 2 to b for 1.
        Check.same("h inherits 1", filled(MOVES + "pancake 0 x;taster a 2 0 0 0 0;taster b 1 0 0 0 0;"
            + "taster h 1 0 0 0 0;conflict b 0;conflict b 1;conflict h 0;conflict h 2;seat a 1;seat a 2"),
            "4:0 2,0 1 moves 2");
    }

    private static void moverIsNoHeir() {
        Check.same("no heir but the mover", filled(MOVES + "taster a 1 0 0 0 0;seat a 1"), "0: 0 moves 0");
    }

    private static void moverWithoutScore() {
        String text = MOVES + "pancake 0 x;taster a 2 0 0 0 0;taster b 1 0 0 0 0;conflict b 0;seat a 1;seat a 2";
        for (int score = 1; score <= 9; score += 4) {
            Check.same("the scored one stays", filled(text + ";score a 1 " + score), "2:0 0 1 moves 1");
        }
        Check.same("both are scored, so b sits down", filled(text + ";score a 1 1;score a 2 1"), "1: 0,1 0 moves 0");
    }

    private static void moverForReasonFive() {
        // a has a conflict with 0 and so no reason 5; its limit is reached.
        Check.same("a stays", filled(MOVES + "taster a 1 0 0 0 0;taster b 6 0 0 0 0;conflict a 0;conflict b 0;"
            + "seat a 1"), "1: 0,1 moves 0");
        Check.same("at the limit", filled(MOVES + "taster a 1 0 0 0 0;taster b 6 0 0 0 0;conflict b 0;seat a 1"),
            "2:0 1 moves 1");
    }

    private static void moverAboveLimit() {
        // a tastes 1 and 2 and has the limit 1 by now: it moves nevertheless, and keeps its two seats.
        Check.same("a moves", filled(MOVES + "pancake 0 x;taster a 2 0 0 0 0;taster b 1 0 0 0 0;conflict b 0;"
            + "seat a 1;seat a 2;limit a 1"), "2:0 1 0 moves 1");
    }

    private static void moveFromPancakeZero() {
        Check.same("a leaves 0", filled(MOVES + "taster a 1 0 0 0 0;taster b 6 0 0 0 0;conflict b 1;seat a 0"),
            "2:1 0 moves 1");
        Check.same("person 1 leaves 0 to person 0", filled(MOVES + "taster b 1 0 0 0 0;taster a 6 0 0 0 0;"
            + "conflict a 1;seat b 0"), "2:0 1 moves 1");
    }

    /** "as if t had no seat at q": neither is q full then, nor does t's place among its tasters stay. */
    private static void moveFromFull() {
        // h has a conflict with 0, and with 2 by the kitchen of y.
        String text = MOVES + "person c 4;person y 3;taster a 1 0 0 0 0;taster b 1 0 0 0 0;taster c 1 0 0 0 0;"
            + "pancake 0 y;conflict a 0;conflict b 0;conflict c 0;conflict h 0;conflict c 2;conflict b 2;seat a 1;"
            + "seat b 1;seat c 1";
        Check.same("no heir at all", filled(text), "0: 0,1,4  moves 0");
        Check.same("h inherits the third seat", filled(text + ";taster h 6 0 0 0 0"), "2: 1,4,2 0 moves 1");
        Check.same("h is at its limit", filled(text + ";pancake 0 x;taster h 1 0 0 0 0;seat h 3"),
            "0: 0,1,4  2 moves 0");
    }

    /** The heir is one who could taste q: a taster who does not yet, without a conflict and below the limit. */
    private static void heirsThatCanNot() {
        String text = MOVES + "taster a 1 0 0 0 0;seat a 1;";
        Check.same("no taster", filled(text + "conflict b 0"), "0: 0 moves 0");
        Check.same("tastes it already", filled(text + "taster b 6 0 0 0 0;seat b 1;conflict b 0"), "0: 0,1 moves 0");
        Check.same("a conflict", filled(text + "taster b 6 0 0 0 0;conflict b 0;conflict b 1"), "0: 0 moves 0");
        Check.same("the limit", filled(text + "taster b 1 0 0 0 0;pancake 0 x;seat b 2;conflict b 0;conflict a 2"),
            "0: 0 1 moves 0");
        Check.same("the limit is not reached", filled(text + "taster b 2 0 0 0 0;pancake 0 x;seat b 2;conflict b 0;"
            + "conflict a 2"), "2:0 1 1 moves 1");
    }

    // ---- 5. scores

    private static void means() {
        PancakePanel panel = Panels.of(FOUR + ";seat a 0;seat a 1;seat a 2;seat b 0");
        panel.score(0, 0, 9);
        Check.same("of one score", panel.meanOf(0), 900);
        panel.score(0, 1, 8);
        Check.same("of two scores", panel.meanOf(0), 850);
        panel.score(0, 2, 9);
        Check.same("866.67 is 866", panel.meanOf(0), 866);
        panel.score(1, 0, 1);
        // The mean of all is 2700 / 4 = 675, not the mean of 866 and 100.
        Check.same("the mean of all scores", panel.adjustedScore(1, 0), 100 - 100 + 675);
        Check.same("adjusted", panel.adjustedScore(0, 0), 900 - 866 + 675);
        panel.unassign(0, 1);
        Check.same("a score that left", panel.meanOf(0), 900);
    }

    private static void adjustedScores() {
        PancakePanel panel = Panels.of(FOUR + ";seat a 0;seat a 1;seat b 0;score a 0 1;score a 1 2;score b 0 2");
        // Means 150 and 200; of all 500 / 3 = 166.
        Check.same("of a at 0", panel.adjustedScore(0, 0), 116);
        Check.same("of a at 1", panel.adjustedScore(0, 1), 216);
        Check.same("of b at 0", panel.adjustedScore(1, 0), 166);
        Check.same("no score", panel.adjustedScore(1, 1), NONE);
        Check.same("total of 0", panel.totalOf(0), 141);
        Check.same("total of 1", panel.totalOf(1), 216);
    }

    private static PancakePanel harsh(int scoresOfB, int scoresOfC) {
        PancakePanel panel = Panels.of(FOUR + ";pancake 0 x;pancake 0 x");
        int[] rows = {199, scoresOfB, scoresOfC};
        for (int person = 0; person < 3; person++) {
            for (int pancake = 2; pancake >= 0 && rows[person] > 0; pancake--) {
                panel.assign(person, pancake);
                panel.score(person, pancake, rows[person] % 10);
                rows[person] /= 10;
            }
        }
        for (int pancake = 3; pancake < 6; pancake++) {
            panel.assign(3, pancake);
            panel.score(3, pancake, 1);
        }
        return panel;
    }

    private static void totalsTowardZero() {
        // Means 633 of a and 600 of b; of all (19 + 18 + 3) * 100 / 9 = 444: adjusted -89 and -56.
        PancakePanel panel = harsh(198, 0);
        Check.same("adjusted of a", panel.adjustedScore(0, 0), -89);
        Check.same("adjusted of b", panel.adjustedScore(1, 0), -56);
        Check.same("-145 / 2 is -72", panel.totalOf(0), -72);
        Check.same("spread below 0", panel.spreadOf(0), 33);
        Check.same("written", Panels.pancake(panel, 0), "a=1,b=1/-72");
        Check.same("below 0 behind all with scores", panel.rankOf(0), 5);
    }

    private static void totalsOfThreeTowardZero() {
        // Means 633, 600 and 566; of all 57 * 100 / 12 = 475: adjusted -58, -25 and 9.
        PancakePanel panel = harsh(198, 188);
        Check.same("adjusted of a", panel.adjustedScore(0, 0), -58);
        Check.same("adjusted of b", panel.adjustedScore(1, 0), -25);
        Check.same("adjusted of c", panel.adjustedScore(2, 0), 9);
        Check.same("-74 / 3 is -24", panel.totalOf(0), -24);
        Check.same("spread over 0", panel.spreadOf(0), 67);
    }

    private static void spreads() {
        PancakePanel panel = Panels.of(FOUR + ";seat a 0;seat b 0;seat c 0;seat a 1;score a 1 1");
        Check.same("no score", panel.spreadOf(0), 0);
        panel.score(0, 0, 9);
        Check.same("one score", panel.spreadOf(0), 0);
        panel.score(1, 0, 9);
        // Mean of a 500, of b 900: adjusted differ by 400, though the scores are equal.
        Check.same("two equal scores", panel.spreadOf(0), 400);
        panel.score(2, 0, 1);
        Check.same("the third between", panel.spreadOf(0), 400);
    }

    private static void ranks() {
        PancakePanel panel = Panels.of(FOUR + ";seat a 1;seat a 3;score a 3 5");
        Check.same("with scores first", order(panel), "3012");
        panel.score(0, 1, 4);
        Check.same("descending totals", order(panel), "3102");
        panel.score(0, 1, 6);
        Check.same("descending totals the other way", order(panel), "1302");
        panel.score(0, 1, 5);
        Check.same("equal totals by number", order(panel), "1302");
        panel.unassign(0, 3);
        Check.same("without scores by number", order(panel), "1023");
        // Means of a 133, b 500, c 166, of all 200: adjusted at 0 267 and 200, at 1 234, at 2 167 and 234.
        PancakePanel close = Panels.of(FOUR + ";seat a 0;seat b 0;seat c 1;seat a 2;seat c 2;seat a 3;seat c 3;"
            + "score a 0 2;score b 0 5;score c 1 2;score a 2 1;score c 2 2;score a 3 1;score c 3 1");
        Check.same("totals 233 and 234", close.totalOf(0) * 1000 + close.totalOf(1), 233234);
        Check.same("234 ahead of 233", order(close), "1023");
    }

    private static String order(PancakePanel panel) {
        StringBuilder order = new StringBuilder();
        for (int rank = 0; rank < panel.pancakeCount(); rank++) {
            order.append(panel.pancakeAt(rank));
            Check.same("rank", panel.rankOf(panel.pancakeAt(rank)), rank);
        }
        return order.toString();
    }

    // ---- 6. talks

    /** The scores at pancake 0 after the talk, with the answer ahead. */
    private static String talked(String scores) {
        PancakePanel panel = Panels.of(FOUR + ";seat a 0;seat b 0;seat c 0");
        for (int person = 0; person < scores.length(); person++) {
            panel.score(person, 0, scores.charAt(person) - '0');
        }
        StringBuilder text = new StringBuilder();
        text.append(panel.talk(0)).append(':');
        for (int person = 0; person < scores.length(); person++) {
            text.append(panel.scoreOf(person, 0));
        }
        Check.same(scores + " changes", panel.changeCount(), text.charAt(0) - '0');
        Check.same(scores + " talks", panel.talkCount(), 1);
        return text.toString();
    }

    private static void middles() {
        Check.same("the smaller one of two", talked("19"), "1:18");
        Check.same("also if it is the second", talked("91"), "1:81");
        for (String scores : new String[] {"159", "195", "519", "591", "915", "951"}) {
            String due = scores.replace('9', '8').replace('1', '2');
            Check.same("the middle one of " + scores, talked(scores), "2:" + due);
        }
        Check.same("two equal great ones", talked("991"), "1:992");
        Check.same("two equal small ones", talked("191"), "1:181");
        Check.same("even of two", even("95"), "55");
        Check.same("even of three", even("952"), "555");
        Check.same("even of three equals", even("333"), "333");
    }

    private static String even(String scores) {
        StringBuilder items = new StringBuilder(FOUR + ";seat a 0;seat b 0;seat c 0");
        for (int person = 0; person < scores.length(); person++) {
            items.append(";score ").append((char) ('a' + person)).append(" 0 ").append(scores.charAt(person));
        }
        PancakePanel panel = Panels.of(items + ";even 0");
        StringBuilder text = new StringBuilder();
        for (int person = 0; person < scores.length(); person++) {
            text.append(panel.scoreOf(person, 0));
        }
        Check.same(scores + " is no talk", panel.talkCount() + panel.changeCount(), 0);
        return text.toString();
    }

    private static void talksByMoreThanOne() {
        Check.same("by 2 of two", talked("53"), "1:43");
        Check.same("by 2 on both sides", talked("753"), "2:654");
        Check.same("by 2 and 1", talked("754"), "1:654");
        Check.same("by 1 and 2", talked("653"), "1:654");
        Check.same("by 1 on both sides", talked("654"), "0:654");
    }

    private static void talksWithoutChange() {
        Check.same("equal scores", talked("55"), "0:55");
        Check.same("a difference of 1", talked("54"), "0:54");
        Check.same("three equal scores", talked("111"), "0:111");
    }
}
