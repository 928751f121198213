/** Section 7: what each item does, in the order of the items, how often in a repeat, and in the place of the call. */
public final class ItemEdgesTest {
    private static final int NAME = PancakePanel.NAME_ERROR;
    private static final int LIMIT = PancakePanel.LIMIT_ERROR;
    private static final String TWO = "panel 0 0;person a 1;person b 2;person c 3;person d 4;taster a 6 1 2 3 4;"
        + "taster b 6 4 3 2 1;pancake 0 c;pancake 3 c;";
    private static final String SEATED = TWO + "seat a 0;seat b 0;seat a 1;seat b 1;";
    private static final String SCORED = SEATED + "score a 0 9;score b 0 1;score a 1 8;score b 1 2;";
    // An item without effect, for a text that has its semicolon already.
    private static final String NOTHING = "kitchen c 3";
    // Fills every row that a setup has, so that what it left over would be seen in PLAIN.
    private static final String MESS = "panel 900 10;person a 1;person b 1;person c 3;person d 4;person e 5;"
        + "taster a 1 9 9 9 9;taster b 6 9 9 9 9;taster c 6 9 9 9 9;together a c;together b c;pancake 3 e;pancake 3 e;"
        + "pancake 3 e d;conflict b 0;conflict c 0;bid c 0 3;bid c 1 2;seat a 1;fill;score b 1 9;score c 1 1;"
        + "score b 2 9;talk 1";
    private static final String PLAIN = "panel 5 1;person a 0;person b 5;person c 6;taster c 6 0 0 0 0;pancake 0 a;"
        + "pancake 0 b";

    private ItemEdgesTest() {
    }

    public static void main(String[] args) {
        itemsLikeCalls();
        orderOfItems();
        limitAndKitchen();
        swaps();
        clears();
        evens();
        copies();
        countsOfPasses();
        errorsInLaterPasses();
        errorsBehindRepeats();
        nothingIsLeftOver();
        nothingIsLeftOfFailures();
        replacedByValidSetups();
        Check.finish();
    }

    /** "do what bid(), assign(), fill(), unassign(), score() and talk() do" */
    private static void itemsLikeCalls() {
        PancakePanel panel = Panels.of(TWO + NOTHING);
        like(panel, TWO, () -> panel.bid(0, 1, 3), "bid a 1 3");
        like(panel, TWO + "bid a 1 3;", () -> panel.assign(1, 0), "seat b 0");
        like(panel, TWO + "bid a 1 3;seat b 0;", panel::fill, "fill");
        PancakePanel scored = Panels.of(SEATED + NOTHING);
        like(scored, SEATED, () -> scored.score(0, 0, 9), "score a 0 9");
        like(scored, SEATED + "score a 0 9;", () -> scored.score(1, 0, 1), "score b 0 1");
        like(scored, SEATED + "score a 0 9;score b 0 1;", () -> scored.score(1, 0, 2), "score b 0 2");
        like(scored, SEATED + "score a 0 9;score b 0 2;", () -> scored.talk(0), "talk 0");
        like(scored, SEATED + "score a 0 9;score b 0 2;talk 0;", () -> scored.unassign(0, 0), "leave a 0");
        PancakePanel moving = Panels.of(TWO + "limit a 1;seat a 1;conflict b 0");
        like(moving, TWO + "limit a 1;seat a 1;conflict b 0;", moving::fill, "fill");
        Check.same("with a move", moving.moveCount() * 10 + moving.fillCount(), 12);
        PancakePanel declared = Panels.of(TWO + NOTHING);
        like(declared, TWO, () -> declared.declare(3, 1, true), "conflict d 1");
    }

    private static void like(PancakePanel panel, String text, Check.Call call, String item) {
        call.run();
        Check.same(text + item, Snapshot.ofPanel(Panels.of(text + item)), Snapshot.ofPanel(panel));
    }

    private static void orderOfItems() {
        Check.same("the later bid", Panels.of(TWO + "bid a 0 3;bid a 0 1").bidOf(0, 0), 1);
        Check.same("the later limit", Panels.of(TWO + "limit a 1;limit a 5").limitOf(0), 5);
        Check.same("the later kitchen", Panels.of(TWO + "kitchen a 9;kitchen a 8").kitchenOf(0), 8);
        Check.same("the later score", Panels.of(SEATED + "score a 0 9;score a 0 8").scoreOf(0, 0), 8);
        Check.same("a seat ahead of the conflict", Panels.of(TWO + "seat a 0;conflict a 0").imbalance(), 1);
        Setups.error(LIMIT, TWO + "conflict a 0;seat a ^0");
        Check.same("a kitchen back again", Panels.of(TWO + "kitchen a 3;kitchen a 1;seat a 0").seatCount(0), 1);
        Check.same("a fill ahead of the bid", Panels.seats(Panels.of(TWO + "fill;bid a 0 3"), 0), "1,0");
        Check.same("a fill behind the bid", Panels.seats(Panels.of(TWO + "bid a 0 3;fill"), 0), "0,1");
        Check.same("a talk between scores",
            Panels.pancake(Panels.of(SEATED + "score a 0 9;score b 0 1;talk 0;score b 0 2"), 0), "a=8,b=2/500");
    }

    private static void limitAndKitchen() {
        PancakePanel panel = Panels.of(SCORED + "limit a 1;kitchen a 3;kitchen d 9");
        Check.same("limit", panel.limitOf(0), 1);
        Check.same("kitchen", panel.kitchenOf(0), 3);
        Check.same("kitchen of no taster", panel.kitchenOf(3), 9);
        Check.same("seats stay", Panels.seats(panel, 0) + ";" + Panels.seats(panel, 1), "0,1;0,1");
        Check.same("scores stay", panel.scoreOf(0, 0) * 10 + panel.scoreOf(0, 1), 98);
        Check.same("tastes stay", panel.tasteOf(0, 3), 4);
        Check.same("conflicts come", panel.conflict(0, 0), 2);
        Check.same("kitchen 0", Panels.of(TWO + "kitchen a 0").kitchenOf(0), 0);
        Check.same("bid 0", Panels.of(TWO + "bid a 0 2;bid a 0 0").bidOf(0, 0), 0);
        Check.same("kitchen of a cook", Panels.of(TWO + "kitchen c 1").conflict(0, 1), 2);
    }

    private static void swaps() {
        PancakePanel panel = Panels.of(TWO + "pancake 2 c d;bid a 0 1;swap 0 2");
        Check.same("topics", panel.topicOf(0) * 100 + panel.topicOf(1) * 10 + panel.topicOf(2), 230);
        Check.same("cooks stay", panel.cookCount(0) * 10 + panel.cookCount(2), 12);
        Check.same("bids stay", panel.bidOf(0, 0), 1);
        Check.same("preferences follow", panel.preference(0, 0) * 100 + panel.preference(0, 2), 1301);
        Check.same("back again", Panels.of(TWO + "swap 0 1;swap 1 0").topicOf(0), 0);
        Check.same("seats and scores stay", Panels.pancake(Panels.of(SCORED + "swap 0 1"), 0),
            Panels.pancake(Panels.of(SCORED + NOTHING), 0));
    }

    private static void clears() {
        PancakePanel panel = Panels.of(SCORED + "clear 0");
        Check.same("no seats", panel.seatCount(0), 0);
        Check.same("no scores", panel.scoreCount(0), 0);
        Check.same("the other pancake", panel.seatCount(1) * 10 + panel.scoreCount(1), 22);
        Check.same("the mean without them", panel.meanOf(0), 800);
        Check.same("the average without them", panel.averageScore(), 5.0);
        Check.same("loads", panel.loadOf(0), 1);
        Check.same("balance", panel.imbalance(), 0);
        Check.same("of an empty pancake", Panels.of(TWO + "clear 1").seatCount(1), 0);
        Check.same("all three", Panels.of(SCORED + "taster d 6 0 0 0 0;seat d 1;clear 1").lacking(), 4);
        Check.same("seats can be taken again", Panels.seats(Panels.of(SCORED + "clear 0;seat b 0"), 0), "1");
    }

    private static void evens() {
        PancakePanel panel = Panels.of(SCORED + "even 0");
        Check.same("the smaller one", panel.scoreOf(0, 0) * 10 + panel.scoreOf(1, 0), 11);
        Check.same("the other pancake", panel.scoreOf(0, 1) * 10 + panel.scoreOf(1, 1), 82);
        Check.same("no talk", panel.talkCount() * 10 + panel.changeCount(), 0);
        Check.same("the average follows", panel.averageScore(), 3.0);
        PancakePanel three = Panels.of(SCORED + "taster d 6 0 0 0 0;seat d 0;score d 0 4;even 0");
        Check.same("the middle one", Panels.pancake(three, 0).substring(0, 11), "a=4,b=4,d=4");
    }

    private static void copies() {
        PancakePanel panel = Panels.of(TWO + "bid a 1 3;bid b 0 2;copy a b;bid a 0 1;pancake 0 d;bid a 2 3");
        Check.same("all bids, those of 0 too", Panels.bids(panel, 1), "030");
        Check.same("the first one keeps its own", Panels.bids(panel, 0), "133");
        Check.same("the tastes stay", panel.tasteOf(1, 0), 4);
        Check.same("the limit stays", Panels.of(TWO + "limit b 2;copy a b").limitOf(1), 2);
        PancakePanel ten = Panels.of("panel 0 0;person a 1;person b 2;person x 3;taster a 6 0 0 0 0;taster b 6 0 0 0 0"
            + ";pancake 0 x".repeat(10) + ";bid a 0 1;bid a 9 3;copy a b");
        Check.same("for ten pancakes", Panels.bids(ten, 1), "1000000003");
    }

    // ---- repeat

    private static void countsOfPasses() {
        for (int count = 1; count <= 9; count++) {
            String repeat = "repeat " + count;
            Check.same(repeat, Panels.of(SCORED + repeat + "(talk 0)").talkCount(), count);
            Check.same(repeat + " in 9", Panels.of(SCORED + "repeat 9(" + repeat + "(talk 0))").talkCount(), 9 * count);
            String around = repeat + "(talk 0;repeat 2(talk 1);talk 0)";
            Check.same(around, Panels.of(SCORED + around).talkCount(), 4 * count);
            String both = repeat + "(repeat 1(talk 0);repeat 3(talk 1))";
            Check.same(both, Panels.of(SCORED + both).talkCount(), 4 * count);
        }
        PancakePanel panel = Panels.of(SCORED + "repeat 3(talk 0);talk 1");
        Check.same("each pass takes effect", panel.scoreOf(0, 0), 6);
        Check.same("the item behind it once", panel.scoreOf(0, 1), 7);
        Check.same("eight passes of pancakes", Panels.of(TWO + "repeat 8(pancake 1 c)").pancakeCount(), 10);
        Check.same("seats go and come", Panels.seats(Panels.of(SEATED + "repeat 9(leave a 0;seat a 0)"), 0), "1,0");
    }

    private static void errorsInLaterPasses() {
        Setups.error(NAME, TWO + "repeat 2 (person ^e 1)");
        Setups.error(NAME, TWO + "repeat 2 (taster ^d 1 1 1 1 1)");
        Setups.error(NAME, TWO + "repeat 2 (together a ^d)");
        Setups.error(LIMIT, TWO + "repeat 9 (^pancake 1 c)");
        Setups.error(LIMIT, TWO + "repeat 3 (repeat 3 (^pancake 1 c))");
        Setups.error(LIMIT, TWO + "repeat 2 (conflict a ^0)");
        Setups.error(LIMIT, TWO + "repeat 2 (seat a ^0)");
        Setups.error(LIMIT, SEATED + "repeat 2 (leave a ^0)");
        Setups.error(LIMIT, SEATED + "repeat 2 (score a ^0 5;leave a 0)");
        Setups.error(LIMIT, SCORED + "repeat 2 (talk ^0;leave a 0)");
        Setups.error(LIMIT, SCORED + "repeat 2 (even ^0;clear 0)");
        Setups.error(LIMIT, TWO + "limit a 1;repeat 2 (leave a ^0)".replace("leave", "seat"));
        Setups.error(NAME, TWO + "repeat 2 (repeat 1 (together a ^d))");
        Setups.error(NAME, TWO + "repeat 1 (fill;repeat 2 (fill;together a ^d))");
        Setups.error(LIMIT, TWO + "repeat 2 (repeat 2 (bid a 0 1);seat a ^0;fill)");
    }

    private static void errorsBehindRepeats() {
        Setups.error(NAME, TWO + "repeat 3 (fill);together a ^a");
        Setups.error(LIMIT, TWO + "repeat 2 (repeat 2 (fill));seat d ^0");
        Setups.error(PancakePanel.SYNTAX_ERROR, TWO + "repeat 9 (repeat 9 (fill) ^fill)");
        Setups.error(PancakePanel.RANGE_ERROR, TWO + "repeat 2 (fill;bid a 0 ^4)");
    }

    // ---- a setup replaces all of the former one

    /** After the calls, the object answers as a new one does after the same setup and changes. */
    private static void likeNew(PancakePanel used, String text) {
        PancakePanel fresh = new PancakePanel();
        for (PancakePanel panel : new PancakePanel[] {used, fresh}) {
            Panels.parse(panel, text);
        }
        Check.same(text, Snapshot.ofPanel(used), Snapshot.ofPanel(fresh));
        Check.same("nothing to undo", used.undoCount(), 0);
        for (PancakePanel panel : new PancakePanel[] {used, fresh}) {
            panel.fill();
            panel.score(2, 0, 7);
            panel.score(2, 1, 4);
        }
        Check.same(text + " and then", Snapshot.ofPanel(used), Snapshot.ofPanel(fresh));
    }

    private static void nothingIsLeftOver() {
        PancakePanel panel = Panels.of(MESS);
        Check.isTrue("there was a move", panel.moveCount() > 0);
        Check.isTrue("there were talks", panel.changeCount() > 0);
        panel.saveState(0);
        panel.fill();
        likeNew(panel, PLAIN);
        Check.noPanel("nothing saved", () -> panel.restoreState(0));
    }

    private static void nothingIsLeftOfFailures() {
        String[] failures = {MESS + ";?", "panel 900 10;repeat 2(person a 1;repeat 2(fill;?))", MESS + ";repeat 9(fill",
            "panel 900 10;person a 1;person b 1;pancake 0 a b;pancake 0 a b b"};
        for (String failure : failures) {
            PancakePanel panel = new PancakePanel();
            Check.refused(failure, () -> Panels.parse(panel, failure));
            likeNew(panel, PLAIN);
        }
        PancakePanel repeats = new PancakePanel();
        Check.refused("two open brackets", () -> Panels.parse(repeats, "panel 0 0;repeat 3(repeat 3(?"));
        Panels.parse(repeats, "panel 0 0;person x 1;repeat 2(repeat 2(pancake 0 x))");
        Check.same("new brackets", repeats.pancakeCount(), 4);
        Check.refused("a bracket that was open", () -> Panels.parse(repeats, "panel 0 0;fill)"));
        Check.same("its position", repeats.parseErrorPosition(), 14);
    }

    private static void replacedByValidSetups() {
        PancakePanel panel = Panels.of(PLAIN);
        String before = Snapshot.ofPanel(panel);
        for (String failure : new String[] {MESS + ";?", MESS + ";repeat 2(person z 1)", "panel 0 0;person z 1;"}) {
            Check.refused(failure, () -> Panels.parse(panel, failure));
            Check.same("the panel before " + failure, Snapshot.ofPanel(panel), before);
        }
        Panels.parse(panel, "panel 0 0");
        Check.same("replaced by an empty one", panel.personCount() + panel.pancakeCount(), 0);
    }
}
