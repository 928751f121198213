/**
 * Promises 1 to 58, one after the other: the least and the greatest answer, and each "NONE if", "0 if", "0 without" and
 * "none". What is thrown is in RefusedCallsTest, what is undone and saved (59 to 62) in UndoEdgesTest.
 */
public final class PromiseEdgesTest {
    private static final int NONE = PancakePanel.NONE;
    private static final int SPACES = 0x20202020;
    // a, b and c taste, x cooks all, y does neither.
    private static final String BASE = "panel 100 1;person a 1;person b 2;person c 3;person x 4;person y 5;"
        + "taster a 6 9 0 5 1;taster b 6 0 9 5 1;taster c 6 0 0 0 0;pancake 0 x;pancake 1 x";
    private static final String SEATED = BASE + ";seat a 0;seat b 0;seat c 0;seat a 1;seat b 1";

    private PromiseEdgesTest() {
    }

    public static void main(String[] args) {
        p01newObject();
        p02append();
        p02bytesInOrder();
        p02nothingIsAppended();
        p03parseSetup();
        p04parseErrorCode();
        p05parseErrorPosition();
        p06bufferLength();
        p07pancakeCount();
        p08topicOf();
        p09cookCount();
        p10cookAt();
        p11personCount();
        p12nameLetter();
        p13kitchenOf();
        p14isTaster();
        p15limitOf();
        p16tasteOf();
        p17bidOf();
        p18preference();
        p19conflict();
        p20conflictCount();
        p21favoriteOf();
        p22seatCount();
        p23seatAt();
        p24loadOf();
        p25refusal();
        p26bestTaster();
        p27lacking();
        p28lackingAfterFilling();
        p29scoreOf();
        p30scoreCount();
        p31meanOf();
        p32harshest();
        p33disagreement();
        p34adjustedScore();
        p35totalOf();
        p36spreadOf();
        p37needsTalk();
        p38spreadAfterTalk();
        p39rankOf();
        p40pancakeAt();
        p41isAccepted();
        p42fillCount();
        p43moveCount();
        p44talkCount();
        p45changeCount();
        p46averageScore();
        p47seatShare();
        p48imbalance();
        p49writePancake();
        p50writeBids();
        p51outputByte();
        p52bid();
        p53assign();
        p54unassign();
        p55fill();
        p56score();
        p57talk();
        p58declare();
        Check.finish();
    }

    // ---- input buffer and setup

    private static void p01newObject() {
        PancakePanel panel = new PancakePanel();
        Check.same("no panel", Snapshot.ofPanel(panel), "");
        Check.same("an empty buffer", panel.bufferLength(), 0);
        Check.noPanel("pancakeCount", panel::pancakeCount);
        Check.same("the first bytes", panel.append(0, 0, 0, 0, 0), 20);
        Check.same("another object is empty", new PancakePanel().bufferLength(), 0);
    }

    private static void p02append() {
        PancakePanel panel = new PancakePanel();
        for (int length = 20; length <= 500; length += 20) {
            Check.same("append", panel.append(SPACES, SPACES, SPACES, SPACES, SPACES), length);
        }
        Check.same("more than 500", panel.append(SPACES, SPACES, SPACES, SPACES, SPACES), NONE);
        Check.same("again", panel.append(0, 0, 0, 0, 0), NONE);
        Check.same("500 stay", panel.bufferLength(), 500);
        Check.refused("parse of a part", () -> panel.parseSetup(20));
        Check.same("it goes on from 0", panel.append(0, 0, 0, 0, 0), 20);
    }

    /** The place of each of the twenty bytes, told by the position of the one that starts no token. */
    private static void p02bytesInOrder() {
        for (int place = 0; place < 20; place++) {
            for (int sign : new int[] {0, 127, 128, 255}) {
                int[] words = {SPACES, SPACES, SPACES, SPACES, SPACES};
                int shift = 24 - place % 4 * 8;
                words[place / 4] = words[place / 4] & ~(255 << shift) | sign << shift;
                PancakePanel panel = new PancakePanel();
                panel.append(words[0], words[1], words[2], words[3], words[4]);
                Check.refused("byte " + sign, () -> panel.parseSetup(20));
                Check.same("byte " + sign + " in place " + place, panel.parseErrorPosition(), place);
            }
        }
        PancakePanel panel = new PancakePanel();
        panel.append(0x70616e65, 0x6c203120, 0x323b7065, 0x72736f6e, 0x207a2039);
        panel.parseSetup(20);
        Check.same("the most significant byte first", Panels.name(panel, 0) + panel.kitchenOf(0), "z9");
    }

    private static void p02nothingIsAppended() {
        PancakePanel panel = new PancakePanel();
        Panels.append(panel, "panel 0 0" + " ".repeat(491));
        panel.append(0, 0, 0, 0, 0);
        Check.same("the former 500 bytes", panel.parseSetup(500), 0);
    }

    private static void p03parseSetup() {
        PancakePanel panel = new PancakePanel();
        Check.same("pancakes", Panels.parse(panel, BASE), 2);
        Check.same("no pancakes", Panels.parse(panel, "panel 0 0"), 0);
        Check.same("ten pancakes", Panels.parse(panel, "panel 0 0;person a 1" + ";pancake 0 a".repeat(10)), 10);
        Panels.append(panel, "panel 0 0;person a 1;person b 2;fill  ");
        Check.same("the first bytes", panel.parseSetup(20), 0);
        Check.same("not the others", panel.personCount(), 1);
        Check.same("the others are gone", panel.bufferLength(), 0);
        Check.refused("the others", () -> panel.parseSetup(0));
        Panels.append(panel, "panel 0 0;?");
        Check.refused("an invalid one", () -> panel.parseSetup(11));
        Check.same("an empty buffer", panel.bufferLength(), 0);
        Check.same("the previous panel", panel.personCount(), 1);
        Panels.append(panel, "panel 0 0;person abc 789");
        Check.same("a number that is cut", panel.parseSetup(22), 0);
        Check.same("its first digit", panel.kitchenOf(0), 7);
        Panels.append(panel, "panel 0 0;fillx");
        Check.same("a word that is cut", panel.parseSetup(14), 0);
        Panels.append(panel, "panel 0 0           ");
        Check.same("the whole buffer", panel.parseSetup(20), 0);
        Check.outside("nothing is left", () -> panel.parseSetup(1));
    }

    private static void p04parseErrorCode() {
        PancakePanel panel = new PancakePanel();
        Check.same("no call", panel.parseErrorCode(), 0);
        Check.outside("a wrong length", () -> panel.parseSetup(1));
        Check.same("a call that counts not", panel.parseErrorCode(), 0);
        String[] texts = {"?", "panel 901 0", "panel 0 0;person a 1;person a 1", "panel 0 0;repeat 1(repeat 1(repeat"};
        for (int code = 1; code <= 4; code++) {
            String text = texts[code - 1];
            Check.refused(text, () -> Panels.parse(panel, text));
            Check.same(text, panel.parseErrorCode(), code);
            Check.outside("a wrong length", () -> panel.parseSetup(-1));
            Check.same(text + " stays", panel.parseErrorCode(), code);
        }
        Panels.parse(panel, "panel 0 0");
        Check.same("a call that succeeded", panel.parseErrorCode(), 0);
    }

    private static void p05parseErrorPosition() {
        PancakePanel panel = new PancakePanel();
        Check.same("no call", panel.parseErrorPosition(), NONE);
        Check.refused("the first byte", () -> Panels.parse(panel, "?"));
        Check.same("the first byte", panel.parseErrorPosition(), 0);
        Check.outside("a wrong length", () -> panel.parseSetup(-1));
        Check.same("it stays", panel.parseErrorPosition(), 0);
        Check.refused("the first byte of a token", () -> Panels.parse(panel, "panel  901 0"));
        Check.same("the first byte of a token", panel.parseErrorPosition(), 7);
        Check.refused("the last byte", () -> Panels.parse(panel, "panel 0 0" + " ".repeat(490) + "?"));
        Check.same("the last byte", panel.parseErrorPosition(), 499);
        Panels.append(panel, "panel 0 0");
        Check.refused("too early", () -> panel.parseSetup(8));
        Check.same("the number of parsed bytes", panel.parseErrorPosition(), 8);
        Panels.append(panel, "panel 0 0;" + " ".repeat(490));
        Check.refused("too early", () -> panel.parseSetup(500));
        Check.same("500 parsed bytes", panel.parseErrorPosition(), 500);
        Check.refused("no bytes", () -> panel.parseSetup(0));
        Check.same("no parsed bytes", panel.parseErrorPosition(), 0);
        Panels.parse(panel, "panel 0 0");
        Check.same("a call that succeeded", panel.parseErrorPosition(), NONE);
    }

    private static void p06bufferLength() {
        PancakePanel panel = new PancakePanel();
        Check.same("empty", panel.bufferLength(), 0);
        panel.append(0, 0, 0, 0, 0);
        Check.same("twenty", panel.bufferLength(), 20);
        Panels.append(panel, " ".repeat(480));
        Check.same("full", panel.bufferLength(), 500);
        Check.outside("a wrong length", () -> panel.parseSetup(501));
        Check.same("full after a wrong length", panel.bufferLength(), 500);
    }

    // ---- pancakes and persons

    private static void p07pancakeCount() {
        Check.same("none", Panels.of("panel 0 0;person a 1").pancakeCount(), 0);
        Check.same("two", Panels.of(BASE).pancakeCount(), 2);
        Check.same("ten", Panels.of("panel 0 0;person a 1" + ";pancake 0 a".repeat(10)).pancakeCount(), 10);
    }

    private static void p08topicOf() {
        PancakePanel panel = Panels.of("panel 0 0;person a 1;pancake 0 a;pancake 3 a;pancake 2 a;pancake 1 a");
        Check.same("topics", panel.topicOf(0) * 1000 + panel.topicOf(1) * 100 + panel.topicOf(2) * 10
            + panel.topicOf(3), 321);
    }

    private static void p09cookCount() {
        PancakePanel panel = Panels.of(BASE + ";pancake 0 a b;pancake 0 y x c");
        Check.same("one", panel.cookCount(0), 1);
        Check.same("two", panel.cookCount(2), 2);
        Check.same("three", panel.cookCount(3), 3);
    }

    private static void p10cookAt() {
        PancakePanel panel = Panels.of(BASE + ";pancake 0 y x c");
        Check.same("first", panel.cookAt(2, 0), 4);
        Check.same("second", panel.cookAt(2, 1), 3);
        Check.same("third", panel.cookAt(2, 2), 2);
        Check.outside("a fourth", () -> panel.cookAt(2, 3));
        Check.outside("a second of one", () -> panel.cookAt(0, 1));
        Check.outside("one before", () -> panel.cookAt(1, -1));
    }

    private static void p11personCount() {
        Check.same("none", Panels.of("panel 0 0").personCount(), 0);
        Check.same("five", Panels.of(BASE).personCount(), 5);
    }

    private static void p12nameLetter() {
        PancakePanel panel = Panels.of("panel 0 0;person azbycx 1;person q 2");
        String name = "azbycx";
        for (int i = 0; i < 6; i++) {
            Check.same("letter " + i, panel.nameLetter(0, i), name.charAt(i));
        }
        for (int index : new int[] {6, 7, 8, 9, 64, 256, -1, -8, Integer.MAX_VALUE, Integer.MIN_VALUE}) {
            Check.same("letter " + index, panel.nameLetter(0, index), NONE);
        }
        Check.same("the only letter", panel.nameLetter(1, 0), 'q');
        Check.same("behind it", panel.nameLetter(1, 1), NONE);
    }

    private static void p13kitchenOf() {
        PancakePanel panel = Panels.of("panel 0 0;person a 0;person b 9");
        Check.same("kitchens", panel.kitchenOf(0) * 10 + panel.kitchenOf(1), 9);
    }

    private static void p14isTaster() {
        PancakePanel panel = Panels.of(BASE);
        Check.isTrue("a", panel.isTaster(0));
        Check.isTrue("c, of no taste", panel.isTaster(2));
        Check.isFalse("x", panel.isTaster(3));
        Check.isFalse("y", panel.isTaster(4));
    }

    private static void p15limitOf() {
        PancakePanel panel = Panels.of(BASE + ";limit b 1");
        Check.same("greatest", panel.limitOf(0), 6);
        Check.same("least", panel.limitOf(1), 1);
        Check.same("0 of no taster", panel.limitOf(4), 0);
    }

    private static void p16tasteOf() {
        PancakePanel panel = Panels.of(BASE);
        Check.same("topic 0", panel.tasteOf(0, 0), 9);
        Check.same("topic 1", panel.tasteOf(0, 1), 0);
        Check.same("topic 2", panel.tasteOf(0, 2), 5);
        Check.same("topic 3", panel.tasteOf(0, 3), 1);
        Check.same("0 of no taster", panel.tasteOf(3, 3), 0);
        Check.outside("topic 4", () -> panel.tasteOf(0, 4));
        Check.outside("topic -1", () -> panel.tasteOf(1, -1));
    }

    // ---- bids and conflicts

    private static void p17bidOf() {
        PancakePanel panel = Panels.of(BASE + ";bid b 1 3");
        Check.same("greatest", panel.bidOf(1, 1), 3);
        Check.same("of another pancake", panel.bidOf(1, 0), 0);
        Check.same("of another person", panel.bidOf(0, 1), 0);
        Check.same("of no taster", panel.bidOf(4, 1), 0);
    }

    private static void p18preference() {
        PancakePanel panel = Panels.of(BASE + ";bid a 0 3;bid b 0 1");
        Check.same("39", panel.preference(0, 0), 39);
        Check.same("0", panel.preference(0, 1), 0);
        Check.same("10", panel.preference(1, 0), 10);
        Check.same("9", panel.preference(1, 1), 9);
        Check.same("of no taster", panel.preference(3, 0), 0);
    }

    private static void p19conflict() {
        PancakePanel panel = Panels.of(BASE);
        Check.same("none", panel.conflict(0, 0), 0);
        Check.same("the cook", panel.conflict(3, 0), 1);
        Check.same("of no taster, none", panel.conflict(4, 0), 0);
        panel.declare(0, 0, true);
        Check.same("declared", panel.conflict(0, 0), 4);
        Check.same("not with the other pancake", panel.conflict(0, 1), 0);
        Check.same("not of another person", panel.conflict(1, 0), 0);
        Check.same("a seat is no conflict", Panels.of(SEATED).conflict(0, 0), 0);
    }

    private static void p20conflictCount() {
        PancakePanel panel = Panels.of(BASE);
        Check.same("a cook who is no taster", panel.conflictCount(0), 0);
        panel.declare(4, 0, true);
        Check.same("declared by no taster", panel.conflictCount(0), 0);
        panel.declare(0, 0, true);
        Check.same("the first taster", panel.conflictCount(0), 1);
        panel.declare(2, 0, true);
        Check.same("the last taster", panel.conflictCount(0), 2);
        panel.declare(1, 0, true);
        Check.same("all tasters", panel.conflictCount(0), 3);
        Check.same("the other pancake", panel.conflictCount(1), 0);
        PancakePanel reasons = Panels.of(BASE + ";pancake 0 a;kitchen b 1;together c a");
        Check.same("cook, kitchen and together", reasons.conflictCount(2), 3);
        Check.same("the last person", Panels.of(BASE + ";person z 4;taster z 1 0 0 0 0").conflictCount(0), 1);
    }

    private static void p21favoriteOf() {
        PancakePanel panel = Panels.of(BASE + ";pancake 0 x;pancake 0 a");
        Check.same("the greatest preference", panel.favoriteOf(1), 1);
        Check.same("of several the smallest", panel.favoriteOf(0), 0);
        panel.bid(0, 3, 3);
        Check.same("not with a conflict", panel.favoriteOf(0), 0);
        panel.bid(0, 2, 1);
        Check.same("by the bid", panel.favoriteOf(0), 2);
        panel.assign(0, 2);
        Check.same("also one that is tasted", panel.favoriteOf(0), 2);
        Check.same("of preferences 0", panel.favoriteOf(2), 0);
        Check.same("of no taster", panel.favoriteOf(4), 0);
        panel.declare(4, 0, true);
        Check.same("the next one", panel.favoriteOf(4), 1);
        Check.same("the only one", panel.favoriteOf(3), 3);
        Check.same("NONE with conflicts alone", Panels.of(BASE).favoriteOf(3), NONE);
        Check.same("NONE without pancakes", Panels.of("panel 0 0;person a 1").favoriteOf(0), NONE);
    }

    // ---- seats

    private static void p22seatCount() {
        PancakePanel panel = Panels.of(SEATED + ";pancake 0 x");
        Check.same("three", panel.seatCount(0), 3);
        Check.same("two", panel.seatCount(1), 2);
        Check.same("none", panel.seatCount(2), 0);
    }

    private static void p23seatAt() {
        PancakePanel panel = Panels.of(BASE + ";seat c 0;seat a 0;seat b 0;seat b 1");
        Check.same("first", panel.seatAt(0, 0), 2);
        Check.same("second", panel.seatAt(0, 1), 0);
        Check.same("third", panel.seatAt(0, 2), 1);
        Check.outside("a fourth", () -> panel.seatAt(0, 3));
        Check.outside("a second of one", () -> panel.seatAt(1, 1));
        Check.outside("one before", () -> panel.seatAt(1, -1));
        panel.unassign(1, 1);
        Check.outside("a first of none", () -> panel.seatAt(1, 0));
    }

    private static void p24loadOf() {
        PancakePanel panel = Panels.of(SEATED);
        Check.same("two", panel.loadOf(0), 2);
        Check.same("one", panel.loadOf(2), 1);
        Check.same("none", panel.loadOf(3), 0);
        panel.unassign(2, 0);
        Check.same("none any more", panel.loadOf(2), 0);
        StringBuilder six = new StringBuilder("panel 0 0;person a 1;person x 2;taster a 6 0 0 0 0");
        for (int pancake = 0; pancake < 6; pancake++) {
            six.append(";pancake 0 x;seat a ").append(pancake);
        }
        Check.same("six", Panels.of(six.toString()).loadOf(0), 6);
    }

    private static void p25refusal() {
        PancakePanel panel = Panels.of(SEATED);
        Check.same("possible", panel.refusal(2, 1), 0);
        Check.same("no taster", panel.refusal(4, 1), 1);
        Check.same("tastes it", panel.refusal(0, 1), 2);
        panel.declare(2, 1, true);
        Check.same("conflict", panel.refusal(2, 1), 3);
        PancakePanel four = Panels.of(SEATED + ";taster y 1 0 0 0 0");
        Check.same("three tasters", four.refusal(4, 0), 4);
        four.assign(4, 1);
        four.unassign(2, 0);
        Check.same("limit", four.refusal(4, 0), 5);
    }

    private static void p26bestTaster() {
        PancakePanel panel = Panels.of(SEATED);
        Check.same("NONE of a full pancake", panel.bestTaster(0), NONE);
        Check.same("NONE, though there is a fourth", Panels.of(SEATED + ";taster y 6 9 9 9 9").bestTaster(0), NONE);
        Check.same("the only one", panel.bestTaster(1), 2);
        panel.assign(2, 1);
        Check.same("NONE any more", panel.bestTaster(1), NONE);
        Check.same("NONE without tasters", Panels.of("panel 0 0;person x 1;pancake 0 x").bestTaster(0), NONE);
        Check.same("the first person", Panels.of(BASE + ";seat b 0").bestTaster(0), 0);
    }

    private static void p27lacking() {
        Check.same("without pancakes", Panels.of("panel 0 0").lacking(), 0);
        Check.same("of two without tasters", Panels.of(BASE).lacking(), 6);
        PancakePanel panel = Panels.of(SEATED);
        Check.same("one", panel.lacking(), 1);
        panel.assign(2, 1);
        Check.same("none", panel.lacking(), 0);
        Check.same("of ten", Panels.of("panel 0 0;person a 1" + ";pancake 0 a".repeat(10)).lacking(), 30);
    }

    private static void p28lackingAfterFilling() {
        String[] texts = {"panel 0 0", BASE, SEATED, BASE + ";limit a 1;limit b 1;limit c 1",
            "panel 0 0;person a 1;person b 2;person x 5;taster a 1 0 0 0 0;taster b 6 0 0 0 0;pancake 0 x;pancake 0 x;"
            + "conflict b 0;seat a 1"};
        int[] due = {0, 0, 0, 3, 4};
        for (int i = 0; i < texts.length; i++) {
            PancakePanel panel = Panels.of(texts[i]);
            int before = panel.lacking();
            Check.same(texts[i], panel.lackingAfterFilling(), due[i]);
            Check.same("nothing is filled", panel.lacking() + panel.fillCount() + panel.moveCount(), before);
            Check.same("no change", panel.undoCount(), 0);
            panel.fill();
            Check.same("it comes true", panel.lacking(), due[i]);
            Check.same("and stays", panel.lackingAfterFilling(), due[i]);
        }
    }

    // ---- scores

    private static void p29scoreOf() {
        PancakePanel panel = Panels.of(SEATED + ";score a 0 1;score b 1 9");
        Check.same("least", panel.scoreOf(0, 0), 1);
        Check.same("greatest", panel.scoreOf(1, 1), 9);
        Check.same("0 of one with a seat", panel.scoreOf(0, 1), 0);
        Check.same("0 of one without", panel.scoreOf(4, 1), 0);
    }

    private static void p30scoreCount() {
        PancakePanel panel = Panels.of(SEATED);
        Check.same("none of three seats", panel.scoreCount(0), 0);
        for (int person = 0; person < 3; person++) {
            panel.score(person, 0, 1);
            Check.same("scores", panel.scoreCount(0), person + 1);
        }
        Check.same("none at the other", panel.scoreCount(1), 0);
        panel.score(2, 0, 9);
        Check.same("a score that is changed", panel.scoreCount(0), 3);
    }

    private static void p31meanOf() {
        PancakePanel panel = Panels.of(SEATED);
        Check.same("NONE with seats", panel.meanOf(0), NONE);
        Check.same("NONE of no taster", panel.meanOf(4), NONE);
        panel.score(0, 0, 1);
        Check.same("least", panel.meanOf(0), 100);
        panel.score(1, 0, 9);
        Check.same("greatest", panel.meanOf(1), 900);
        panel.score(0, 1, 2);
        Check.same("of two", panel.meanOf(0), 150);
    }

    private static void p32harshest() {
        PancakePanel panel = Panels.of(SEATED);
        Check.same("NONE without scores", panel.harshest(), NONE);
        panel.score(2, 0, 9);
        Check.same("the only one", panel.harshest(), 2);
        panel.score(1, 0, 9);
        Check.same("of several the smallest", panel.harshest(), 1);
        panel.score(0, 0, 9);
        Check.same("the first of three", panel.harshest(), 0);
        panel.score(2, 0, 8);
        Check.same("the smallest mean", panel.harshest(), 2);
        panel.score(0, 0, 1);
        Check.same("the least score", panel.harshest(), 0);
        panel.score(0, 1, 9);
        Check.same("the mean, not the least score", panel.harshest(), 0);
        panel.score(2, 0, 4);
        Check.same("400 and 500", panel.harshest(), 2);
        panel.unassign(2, 0);
        Check.same("without the one who left", panel.harshest(), 0);
    }

    private static void p33disagreement() {
        PancakePanel panel = Panels.of(SEATED);
        Check.same("0 without scores", panel.disagreement(0), 0);
        panel.score(0, 0, 1);
        Check.same("0 alone", panel.disagreement(0), 0);
        panel.score(1, 0, 2);
        panel.score(0, 1, 5);
        // Means 300 and 200, of all 266: at 0 adjusted 66 and 266, total 166; at 1 466.
        Check.same("also by a score of 1", panel.disagreement(0), 100);
        Check.same("without its sign", panel.disagreement(1), 100);
        panel.score(1, 1, 9);
        // Means 300 and 550, of all 425: at 0 225 and 75, total 150; at 1 625 and 775, total 700.
        Check.same("the sum over pancakes", panel.disagreement(0), 150);
        Check.same("the sum of the other", panel.disagreement(1), 150);
        Check.same("of no taster", panel.disagreement(4), 0);
    }

    private static void p34adjustedScore() {
        PancakePanel panel = Panels.of(SEATED + ";score a 0 1;score a 1 9;score b 0 9");
        // Means 500 and 900, of all 633.
        Check.same("of a", panel.adjustedScore(0, 0), 233);
        Check.same("of a at 1", panel.adjustedScore(0, 1), 1033);
        Check.same("of b", panel.adjustedScore(1, 0), 633);
        Check.same("NONE without a score", panel.adjustedScore(2, 0), NONE);
        Check.same("NONE without a seat", panel.adjustedScore(2, 1), NONE);
        Check.same("NONE of no taster", panel.adjustedScore(3, 0), NONE);
    }

    private static void p35totalOf() {
        PancakePanel panel = Panels.of(SEATED);
        Check.same("0 without scores", panel.totalOf(0), 0);
        panel.score(0, 0, 7);
        Check.same("of one score", panel.totalOf(0), 700);
        Check.same("0 of the other", panel.totalOf(1), 0);
        panel.score(1, 0, 2);
        // Each mean is the score, so each adjusted score is the mean of all.
        Check.same("of two scores", panel.totalOf(0), 450);
        panel.score(2, 0, 4);
        Check.same("of three scores", panel.totalOf(0), 433);
    }

    private static void p36spreadOf() {
        PancakePanel panel = Panels.of(SEATED);
        Check.same("0 without scores", panel.spreadOf(0), 0);
        panel.score(0, 0, 9);
        panel.score(0, 1, 1);
        Check.same("0 of one score", panel.spreadOf(0), 0);
        panel.score(1, 0, 9);
        Check.same("of two scores", panel.spreadOf(0), 400);
        panel.unassign(1, 0);
        Check.same("0 of one score again", panel.spreadOf(0), 0);
    }

    private static void p37needsTalk() {
        String scores = SEATED.substring("panel 100".length()) + ";score a 0 9;score a 1 1;score b 0 9";
        Check.isTrue("399", Panels.of("panel 399" + scores).needsTalk(0));
        Check.isFalse("400", Panels.of("panel 400" + scores).needsTalk(0));
        Check.isFalse("401", Panels.of("panel 401" + scores).needsTalk(0));
        Check.isFalse("900", Panels.of("panel 900" + scores).needsTalk(0));
        Check.isTrue("0", Panels.of("panel 0" + scores).needsTalk(0));
        Check.isFalse("one score", Panels.of("panel 0" + scores).needsTalk(1));
        Check.isFalse("no scores", Panels.of("panel 0" + BASE.substring("panel 100".length())).needsTalk(1));
    }

    private static void p38spreadAfterTalk() {
        PancakePanel panel = Panels.of(SEATED + ";score a 0 9;score a 1 5;score b 0 1");
        Check.same("the spread", panel.spreadOf(0), 200);
        // With 8 for 9 the mean of a is 650: adjusted 8 and 1 differ from the means by 150 and 0.
        Check.same("the predicted one", panel.spreadAfterTalk(0), 150);
        Check.same("nothing is changed", panel.scoreOf(0, 0) * 10 + panel.talkCount() + panel.changeCount(), 90);
        Check.same("no talk of one score", panel.spreadAfterTalk(1), panel.spreadOf(1));
        panel.talk(0);
        Check.same("it comes true", panel.spreadOf(0), 150);
        PancakePanel close = Panels.of(SEATED + ";score a 0 6;score a 1 1;score b 0 5");
        Check.same("a talk that changes nothing", close.spreadAfterTalk(0), close.spreadOf(0));
        Check.same("no scores", Panels.of(BASE).spreadAfterTalk(0), 0);
    }

    // ---- ranks

    private static void p39rankOf() {
        PancakePanel panel = Panels.of(SEATED + ";pancake 0 x");
        Check.same("by number", panel.rankOf(0) * 100 + panel.rankOf(1) * 10 + panel.rankOf(2), 12);
        panel.assign(0, 2);
        panel.score(0, 2, 1);
        Check.same("0 for the best one", panel.rankOf(2), 0);
        Check.same("those without scores", panel.rankOf(0) * 10 + panel.rankOf(1), 12);
        panel.score(0, 1, 2);
        Check.same("the greater total", panel.rankOf(1) * 10 + panel.rankOf(2), 1);
        Check.same("the only pancake", Panels.of("panel 0 0;person x 1;pancake 0 x").rankOf(0), 0);
        Check.same("the last of ten", Panels.of("panel 0 0;person x 1" + ";pancake 0 x".repeat(10)).rankOf(9), 9);
    }

    private static void p40pancakeAt() {
        PancakePanel panel = Panels.of(SEATED + ";score b 1 1");
        Check.same("the best one", panel.pancakeAt(0), 1);
        Check.same("the last one", panel.pancakeAt(1), 0);
        Check.outside("behind it", () -> panel.pancakeAt(2));
        Check.outside("ahead", () -> panel.pancakeAt(-1));
        PancakePanel none = Panels.of("panel 0 0");
        Check.outside("of none", () -> none.pancakeAt(0));
        PancakePanel ten = Panels.of("panel 0 0;person x 1" + ";pancake 0 x".repeat(10));
        Check.same("the last of ten", ten.pancakeAt(9), 9);
        Check.outside("behind ten", () -> ten.pancakeAt(10));
    }

    private static void p41isAccepted() {
        String rest = SEATED.substring("panel 100 1".length()) + ";score a 0 9;score a 1 1;score b 0 9";
        // The spread of 0 is 400.
        Check.isTrue("rank 0 of 1 place", Panels.of("panel 400 1" + rest).isAccepted(0));
        Check.isFalse("rank 0 of no place", Panels.of("panel 400 0" + rest).isAccepted(0));
        Check.isFalse("rank 1 of 1 place", Panels.of("panel 400 1" + rest).isAccepted(1));
        Check.isTrue("rank 1 of 2 places", Panels.of("panel 400 2" + rest).isAccepted(1));
        Check.isFalse("it needs a talk", Panels.of("panel 399 10" + rest).isAccepted(0));
        Check.isTrue("behind one that needs a talk", Panels.of("panel 399 2" + rest).isAccepted(1));
        Check.isFalse("its place is not given on", Panels.of("panel 399 1" + rest).isAccepted(1));
        Check.isFalse("no scores", Panels.of("panel 900 10" + rest + ";leave a 1").isAccepted(1));
    }

    // ---- counts and measures

    private static void p42fillCount() {
        PancakePanel panel = Panels.of(SEATED);
        Check.same("seats of assign count not", panel.fillCount(), 0);
        panel.fill();
        Check.same("one", panel.fillCount(), 1);
        panel.unassign(0, 0);
        Check.same("it does not go down", panel.fillCount(), 1);
        panel.fill();
        Check.same("two", panel.fillCount(), 2);
        Check.same("those of the setup", Panels.of(BASE + ";fill").fillCount(), 6);
    }

    private static final String MOVE = "panel 0 0;person a 1;person b 2;person x 5;taster a 1 0 0 0 0;"
        + "taster b 6 0 0 0 0;pancake 0 x;pancake 0 x;conflict b 0;seat a 1";

    private static void p43moveCount() {
        PancakePanel panel = Panels.of(MOVE);
        Check.same("none", panel.moveCount(), 0);
        Check.same("both tasters of the move", panel.fill(), 2);
        Check.same("one move", panel.moveCount(), 1);
        Check.same("two seats", panel.fillCount(), 2);
        panel.fill();
        Check.same("no other move", panel.moveCount(), 1);
        Check.same("that of the setup", Panels.of(MOVE + ";fill").moveCount(), 1);
    }

    private static void p44talkCount() {
        PancakePanel panel = Panels.of(SEATED + ";score a 0 5;score b 0 5");
        Check.same("none", panel.talkCount(), 0);
        panel.talk(0);
        panel.talk(0);
        Check.same("two without change", panel.talkCount(), 2);
        Check.refused("a refused talk", () -> panel.talk(1));
        Check.same("still two", panel.talkCount(), 2);
        Check.same("those of the setup",
            Panels.of(SEATED + ";score a 0 5;score b 0 5;repeat 4(talk 0);even 0").talkCount(), 4);
    }

    private static void p45changeCount() {
        PancakePanel panel = Panels.of(SEATED + ";score a 0 1;score b 0 9;score c 0 5");
        Check.same("none", panel.changeCount(), 0);
        panel.score(0, 0, 2);
        Check.same("a score is no change by talks", panel.changeCount(), 0);
        panel.talk(0);
        Check.same("two", panel.changeCount(), 2);
        panel.talk(0);
        Check.same("and two", panel.changeCount(), 4);
        panel.talk(0);
        Check.same("and one", panel.changeCount(), 5);
        Check.same("those of the setup",
            Panels.of(SEATED + ";score a 0 1;score b 0 9;repeat 9(talk 0)").changeCount(), 7);
    }

    private static void p46averageScore() {
        PancakePanel panel = Panels.of(SEATED);
        Check.same("0.0 without scores", panel.averageScore(), 0.0);
        panel.score(0, 0, 9);
        Check.same("greatest", panel.averageScore(), 9.0);
        panel.score(1, 0, 1);
        Check.same("of two", panel.averageScore(), 5.0);
        panel.score(2, 0, 1);
        Check.same("not rounded", panel.averageScore(), 11.0 / 3.0);
        panel.unassign(0, 0);
        Check.same("least", panel.averageScore(), 1.0);
    }

    private static void p47seatShare() {
        Check.same("0.0 without pancakes", Panels.of("panel 0 0").seatShare(), 0.0f);
        Check.same("0.0 without tasters", Panels.of(BASE).seatShare(), 0.0f);
        PancakePanel panel = Panels.of(SEATED);
        Check.same("five of six", panel.seatShare(), 5.0f / 6.0f);
        panel.assign(2, 1);
        Check.same("all", panel.seatShare(), 1.0f);
        Check.same("a third", Panels.of(BASE + ";seat a 0;seat a 1").seatShare(), 2.0f / 6.0f);
    }

    private static void p48imbalance() {
        PancakePanel panel = Panels.of(SEATED + ";score a 0 9;score b 0 1;score a 1 5");
        panel.talk(0);
        panel.unassign(1, 0);
        panel.fill();
        Check.same("always 0", panel.imbalance(), 0);
        panel.declare(0, 0, true);
        Check.same("a conflict", panel.imbalance(), 1);
        panel.declare(0, 1, true);
        Check.same("two conflicts of one taster", panel.imbalance(), 2);
        panel.declare(4, 0, true);
        Check.same("a conflict without a seat", panel.imbalance(), 2);
        panel.declare(0, 0, false);
        panel.declare(0, 1, false);
        Check.same("ended", panel.imbalance(), 0);
        Check.same("a kitchen", Panels.of(SEATED + ";kitchen a 4").imbalance(), 2);
        Check.same("a limit", Panels.of(SEATED + ";limit a 1").imbalance(), 1);
        Check.same("limits of two", Panels.of(SEATED + ";limit a 1;limit b 1;limit c 1").imbalance(), 2);
        Check.same("both", Panels.of(SEATED + ";limit a 1;kitchen a 4").imbalance(), 3);
        Check.same("the kitchen of a cook", Panels.of(SEATED + ";kitchen x 2").imbalance(), 2);
        Check.same("without anything", Panels.of("panel 0 0").imbalance(), 0);
    }

    // ---- text output

    private static void p49writePancake() {
        PancakePanel panel = Panels.of(SEATED + ";pancake 0 x;score b 0 7");
        Check.same("scores and a question mark", Panels.pancake(panel, 0), "a=?,b=7,c=?/700");
        Check.same("its length", panel.writePancake(0), 15);
        Check.same("no scores", Panels.pancake(panel, 1), "a=?,b=?/0");
        Check.same("a hyphen without tasters", Panels.pancake(panel, 2), "-/0");
        Check.same("its length", panel.writePancake(2), 3);
        panel.unassign(0, 0);
        panel.unassign(2, 0);
        Check.same("no comma of one", Panels.pancake(panel, 0), "b=7/700");
        PancakePanel names = Panels.of("panel 0 0;person abcdef 1;person x 2;taster abcdef 1 0 0 0 0;pancake 0 x;"
            + "seat abcdef 0;score abcdef 0 9");
        Check.same("a name of 6 letters", Panels.pancake(names, 0), "abcdef=9/900");
    }

    private static void p50writeBids() {
        PancakePanel panel = Panels.of(BASE + ";bid a 0 3;bid b 1 2;seat b 1;conflict a 1");
        Check.same("a digit, and a conflict", Panels.bids(panel, 0), "30!");
        Check.same("its length", panel.writeBids(0), 3);
        Check.same("a digit, and a star", Panels.bids(panel, 1), "02*");
        Check.same("the star is byte 42", panel.outputByte(2), 42);
        Check.same("digits alone", Panels.bids(panel, 2), "00");
        Check.same("conflicts alone", Panels.bids(panel, 3), "0!0!");
        panel.declare(1, 1, true);
        Check.same("a star with a conflict", Panels.bids(panel, 1), "02*");
        Check.same("no pancakes", Panels.of("panel 0 0;person a 1").writeBids(0), 0);
    }

    private static void p51outputByte() {
        PancakePanel panel = new PancakePanel();
        Check.outside("before a setup", () -> panel.outputByte(0));
        Panels.parse(panel, SEATED);
        Check.outside("before the first output", () -> panel.outputByte(0));
        panel.writePancake(1);
        Check.same("first", panel.outputByte(0), 'a');
        Check.same("last", panel.outputByte(8), '0');
        Check.outside("behind the last", () -> panel.outputByte(9));
        Check.outside("ahead of the first", () -> panel.outputByte(-1));
        panel.writeBids(2);
        Check.same("replaced", Snapshot.output(panel), "output 0*0");
        Check.outside("behind the shorter one", () -> panel.outputByte(3));
        PancakePanel none = Panels.of("panel 0 0;person a 1");
        none.writeBids(0);
        Check.outside("of an empty output", () -> none.outputByte(0));
    }

    // ---- changes

    private static void p52bid() {
        PancakePanel panel = Panels.of(BASE);
        Check.same("the bid at first", panel.bid(0, 1, 3), 0);
        Check.same("the previous bid", panel.bid(0, 1, 0), 3);
        Check.same("the least one", panel.bid(0, 1, 1), 0);
        Check.same("set", panel.bidOf(0, 1), 1);
        Check.same("not for the other pancake", panel.bidOf(0, 0), 0);
        Check.same("a taster with a conflict", Panels.of(BASE + ";conflict a 0").bid(0, 0, 2), 0);
    }

    private static void p53assign() {
        PancakePanel panel = Panels.of(BASE);
        Check.same("the first", panel.assign(2, 1), 1);
        Check.same("the second", panel.assign(0, 1), 2);
        Check.same("the third", panel.assign(1, 1), 3);
        Check.same("in order", Panels.seats(panel, 1), "2,0,1");
        Check.same("not at the other", panel.seatCount(0), 0);
        Check.same("without a score", panel.scoreCount(1), 0);
    }

    private static void p54unassign() {
        PancakePanel panel = Panels.of(SEATED + ";score b 0 7;score b 1 3;score a 0 5");
        Check.same("two stay", panel.unassign(1, 0), 2);
        Check.same("the order of the others", Panels.seats(panel, 0), "0,2");
        Check.same("with the score", panel.scoreOf(1, 0), 0);
        Check.same("not with the score of another", panel.scoreOf(0, 0), 5);
        Check.same("not with the other score", panel.scoreOf(1, 1), 3);
        Check.same("one without a score", panel.unassign(2, 0), 1);
        Check.same("the last one", panel.unassign(0, 0), 0);
        panel.assign(1, 0);
        Check.same("the score is not back", panel.scoreOf(1, 0), 0);
        panel.declare(1, 0, true);
        Check.same("with a conflict", panel.unassign(1, 0), 0);
    }

    private static void p55fill() {
        Check.same("all", Panels.of(BASE).fill(), 6);
        Check.same("one", Panels.of(SEATED).fill(), 1);
        Check.same("those of moves", Panels.of(MOVE).fill(), 2);
        Check.same("none", Panels.of("panel 0 0;person x 1;pancake 0 x").fill(), 0);
        Check.same("without pancakes", Panels.of("panel 0 0").fill(), 0);
    }

    private static void p56score() {
        PancakePanel panel = Panels.of(SEATED);
        Check.same("0 if there was none", panel.score(0, 0, 1), 0);
        Check.same("the previous one", panel.score(0, 0, 9), 1);
        Check.same("the same one", panel.score(0, 0, 9), 9);
        Check.same("set", panel.scoreOf(0, 0), 9);
        Check.same("of another pancake", panel.score(0, 1, 5), 0);
        panel.declare(0, 1, true);
        Check.same("with a conflict", panel.score(0, 1, 6), 5);
    }

    private static void p57talk() {
        PancakePanel panel = Panels.of(SEATED + ";score a 0 1;score b 0 5;score c 0 9;score a 1 9;score b 1 9");
        Check.same("two", panel.talk(0), 2);
        Check.same("toward the middle", Panels.pancake(panel, 0).substring(0, 11), "a=2,b=5,c=8");
        Check.same("none", panel.talk(1), 0);
        panel.score(0, 0, 5);
        Check.same("one", panel.talk(0), 1);
        Check.same("the other pancake stays", panel.scoreOf(0, 1), 9);
    }

    private static void p58declare() {
        PancakePanel panel = Panels.of(SEATED + ";score a 0 9");
        Check.isFalse("not before", panel.declare(0, 0, true));
        Check.isTrue("before", panel.declare(0, 0, true));
        Check.same("a conflict", panel.conflict(0, 0), 4);
        Check.same("seats stay", Panels.seats(panel, 0), "0,1,2");
        Check.same("scores stay", panel.scoreOf(0, 0), 9);
        Check.isTrue("ended", panel.declare(0, 0, false));
        Check.isFalse("ended already", panel.declare(0, 0, false));
        Check.same("no conflict", panel.conflict(0, 0), 0);
        Check.isFalse("of a cook", panel.declare(3, 0, true));
        Check.same("the reason stays 1", panel.conflict(3, 0), 1);
        Check.isTrue("of a cook, ended", panel.declare(3, 0, false));
        Check.same("it is a cook nevertheless", panel.conflict(3, 0), 1);
        Check.isTrue("that of the setup", Panels.of(BASE + ";conflict y 1").declare(4, 1, false));
    }
}
