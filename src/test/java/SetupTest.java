/** Promises 1 to 6 and section 7: the buffer, the grammar, each item, each error and its position. */
public final class SetupTest {
    private static final int SYNTAX = PancakePanel.SYNTAX_ERROR;
    private static final int RANGE = PancakePanel.RANGE_ERROR;
    private static final int NAME = PancakePanel.NAME_ERROR;
    private static final int LIMIT = PancakePanel.LIMIT_ERROR;
    private static final String HEAD = "panel 0 0;";
    private static final String BASE = "panel 0 0;person a 1;person b 2;person c 3;person d 4;"
        + "taster a 2 1 2 3 4;taster b 1 0 0 0 0;taster d 6 9 9 9 9;pancake 0 c;pancake 3 c d;";

    public static void main(String[] args) {
        newObject();
        appending();
        parsing();
        failing();
        replacing();
        syntaxErrors();
        rangeErrors();
        nameErrors();
        limitErrors();
        smallestCodeFirst();
        repeats();
        spaces();
        personItems();
        seatItems();
        scoreItems();
        otherItems();
        longest();
        Check.finish();
    }

    private static void newObject() {
        PancakePanel panel = new PancakePanel();
        Check.same("new bufferLength", panel.bufferLength(), 0);
        Check.same("new parseErrorCode", panel.parseErrorCode(), 0);
        Check.same("new parseErrorPosition", panel.parseErrorPosition(), PancakePanel.NONE);
        Check.same("new undoCount", panel.undoCount(), 0);
        Check.noPanel("new pancakeCount", panel::pancakeCount);
        Check.noPanel("new undo", panel::undo);
        Check.noPanel("new restoreState", () -> panel.restoreState(0));
        Check.outside("new restoreState(2)", () -> panel.restoreState(2));
        Check.outside("new outputByte", () -> panel.outputByte(0));
    }

    private static void appending() {
        PancakePanel panel = new PancakePanel();
        for (int length = 20; length <= 500; length += 20) {
            Check.same("append", panel.append(0x20202020, -1, 0, Integer.MIN_VALUE, 7), length);
            Check.same("bufferLength", panel.bufferLength(), length);
        }
        Check.same("append to a full buffer", panel.append(1, 2, 3, 4, 5), PancakePanel.NONE);
        Check.same("full bufferLength", panel.bufferLength(), 500);
        Check.refused("spaces and byte 255", () -> panel.parseSetup(500));
        Check.same("position of byte 255", panel.parseErrorPosition(), 4);
        Check.same("append after a parse", panel.append(0, 0, 0, 0, 0), 20);
        PancakePanel order = new PancakePanel();
        order.append(0x70616e65, 0x6c203120, 0x323b7065, 0x72736f6e, 0x207a2039);
        order.parseSetup(20);
        Check.same("bytes in order", Panels.name(order, 0) + order.kitchenOf(0), "z9");
    }

    private static void parsing() {
        PancakePanel panel = new PancakePanel();
        Panels.append(panel, HEAD);
        Check.outside("parseSetup(-1)", () -> panel.parseSetup(-1));
        Check.outside("parseSetup(21)", () -> panel.parseSetup(21));
        Check.outside("parseSetup of the least", () -> panel.parseSetup(Integer.MIN_VALUE));
        Check.same("buffer after a wrong length", panel.bufferLength(), 20);
        Check.same("code after a wrong length", panel.parseErrorCode(), 0);
        Check.same("parse of a part", panel.parseSetup(9), 0);
        Check.same("buffer after a part", panel.bufferLength(), 0);
        Check.refused("parseSetup(0)", () -> panel.parseSetup(0));
        Check.same("code of the empty setup", panel.parseErrorCode(), SYNTAX);
        Check.same("position in the empty setup", panel.parseErrorPosition(), 0);
        Check.outside("parseSetup(1)", () -> panel.parseSetup(1));
        Panels.append(panel, "panel 0 01;person a 7890");
        Check.refused("a number cut off", () -> panel.parseSetup(7));
        Check.same("position at the cut", panel.parseErrorPosition(), 7);
        Panels.append(panel, "panel 0 0;person abc 7890");
        Check.same("a number cut short", panel.parseSetup(22), 0);
        Check.same("kitchen cut short", panel.kitchenOf(0), 7);
        Panels.append(panel, "panel 0 0;fillx");
        Check.same("a word cut short", panel.parseSetup(14), 0);
        Panels.append(panel, "panel 0 0;" + " ".repeat(490));
        Check.refused("a long early end", () -> panel.parseSetup(500));
        Check.same("position of the early end", panel.parseErrorPosition(), 500);
        Check.refused("the empty setup again", () -> panel.parseSetup(0));
        Check.same("code stays", panel.parseErrorCode(), SYNTAX);
        Check.same("position stays", panel.parseErrorPosition(), 0);
        Check.same("parse of the whole", Panels.parse(panel, BASE + "fill"), 2);
        Check.same("code after success", panel.parseErrorCode(), 0);
        Check.same("position after success", panel.parseErrorPosition(), PancakePanel.NONE);
    }

    private static void failing() {
        PancakePanel panel = Panels.of(BASE + "seat a 0");
        panel.score(0, 0, 5);
        panel.saveState(1);
        panel.writePancake(0);
        Check.refused("an error late", () -> Panels.parse(panel, "panel 9 9;person z 1;fill;oops"));
        Check.same("persons stay", panel.personCount(), 4);
        Check.same("score stays", panel.scoreOf(0, 0), 5);
        Check.same("output stays", panel.outputByte(0), 'a');
        Check.same("undo stays", panel.undoCount(), 1);
        Check.same("undo works", panel.undo(), 0);
        Check.same("undone", panel.scoreOf(0, 0), 0);
        Check.same("saved state stays", panel.restoreState(1), 1);
    }

    private static void replacing() {
        PancakePanel panel = Panels.of(BASE + "seat a 0;score a 0 3;bid a 1 3;conflict b 0;together a b;fill");
        panel.saveState(0);
        panel.saveState(1);
        panel.score(0, 0, 4);
        panel.writePancake(0);
        Panels.parse(panel, "panel 0 0;person q 1;person r 1;taster r 1 0 0 0 0;pancake 1 q;pancake 0 q");
        Check.same("undoCount after a setup", panel.undoCount(), 0);
        Check.noPanel("slot 0 after a setup", () -> panel.restoreState(0));
        Check.noPanel("slot 1 after a setup", () -> panel.restoreState(1));
        Check.same("persons replaced", panel.personCount(), 2);
        Check.same("scores gone", panel.scoreOf(0, 0), 0);
        Check.same("seats gone", panel.lacking(), 6);
        Check.same("bids gone", panel.bidOf(0, 1), 0);
        Check.same("tasters gone", panel.limitOf(0), 0);
        Check.same("fills gone", panel.fillCount(), 0);
        Check.same("average gone", panel.averageScore(), 0.0);
        Check.same("output stays", panel.outputByte(0), 'a');
        Panels.parse(panel, "panel 0 0;person q 1;person r 2;person s 3;pancake 1 s");
        Check.same("declared and together gone", panel.conflict(1, 0), 0);
    }

    private static void syntaxErrors() {
        Setups.error(SYNTAX, "^");
        Setups.error(SYNTAX, "   ^");
        Setups.error(SYNTAX, "panel^");
        Setups.error(SYNTAX, "panel 0^");
        Setups.error(SYNTAX, "panel 0 ^");
        Setups.error(SYNTAX, "panel 0 0;^");
        Setups.error(SYNTAX, "panel 0 0 ;   ^");
        Setups.error(SYNTAX, " ^Panel 0 0");
        Setups.error(SYNTAX, "^panels 0 0");
        Setups.error(SYNTAX, "^pane 0 0");
        Setups.error(SYNTAX, "^panelpanel 0 0");
        Setups.error(SYNTAX, "^0 0");
        Setups.error(SYNTAX, "^;");
        Setups.error(SYNTAX, "panel ^a 0");
        Setups.error(SYNTAX, "panel ^0000 0");
        Setups.error(SYNTAX, "panel ^1000 0");
        Setups.error(SYNTAX, "panel ^-1 0");
        Setups.error(SYNTAX, "panel 0 ^;");
        Setups.error(SYNTAX, "panel 0 0^,");
        Setups.error(SYNTAX, "panel 0 0^\n");
        Setups.error(SYNTAX, "panel 0 0^\u00e9");
        Setups.error(SYNTAX, "panel 0 0^\0");
        Setups.error(SYNTAX, "panel 0 0 ^person a 1");
        Setups.error(SYNTAX, "panel 0 0 ^5");
        Setups.error(SYNTAX, "panel 0 0^)");
        Setups.error(SYNTAX, "panel 0 0^(");
        Setups.error(SYNTAX, "panel 0 0;^;");
        Setups.error(SYNTAX, "panel 0 0;^)");
        Setups.error(SYNTAX, "panel 0 0;^panel 0 0");
        Setups.error(SYNTAX, "panel 0 0;^abc");
        Setups.error(SYNTAX, "panel 0 0;^abcdefghi");
        Setups.error(SYNTAX, "panel 0 0;^7");
        Setups.error(SYNTAX, "panel 0 0;^fillx");
        Setups.error(SYNTAX, "panel 0 0;fill ^fill");
        Setups.error(SYNTAX, "panel 0 0;person ^abcdefghi 1");
        Setups.error(SYNTAX, "panel 0 0;person ^1 1");
        Setups.error(SYNTAX, "panel 0 0;person ^97 1");
        Setups.error(SYNTAX, "panel 0 0;person ^; 1");
        Setups.error(SYNTAX, "panel 0 0;person a^");
        Setups.error(SYNTAX, "panel 0 0;person a ^b");
        Setups.error(SYNTAX, "panel 0 0;person a 1 ^2");
        Setups.error(SYNTAX, "panel 0 0;person a 1 ^taster a 1 1 1 1 1");
        Setups.error(SYNTAX, BASE + "taster c 1 1 1 1^");
        Setups.error(SYNTAX, BASE + "taster c 1 1 1 1 ^;");
        Setups.error(SYNTAX, BASE + "taster ^97 1 1 1 1 1");
        Setups.error(SYNTAX, BASE + "pancake ^a");
        Setups.error(SYNTAX, BASE + "pancake 0 ^1");
        Setups.error(SYNTAX, BASE + "pancake 0 ^;");
        Setups.error(SYNTAX, BASE + "pancake 0^");
        Setups.error(SYNTAX, BASE + "pancake 0 a ^1");
        Setups.error(SYNTAX, BASE + "pancake 0 a b c ^(");
        Setups.error(SYNTAX, BASE + "pancake 0 a b c ^abcdefghi");
        Setups.error(SYNTAX, BASE + "bid a ^b 0");
        Setups.error(SYNTAX, BASE + "bid a 0^");
        Setups.error(SYNTAX, BASE + "together a^");
        Setups.error(SYNTAX, BASE + "conflict a^");
        Setups.error(SYNTAX, BASE + "seat a ^;");
        Setups.error(SYNTAX, BASE + "seat a 0 ^0");
        Setups.error(SYNTAX, BASE + "fill ^0");
        Setups.error(SYNTAX, BASE + "seat a 0;leave a ^b");
        Setups.error(SYNTAX, BASE + "seat a 0;score a 0^");
        Setups.error(SYNTAX, BASE + "talk^");
        Setups.error(SYNTAX, BASE + "talk ^a");
        Setups.error(SYNTAX, BASE + "limit a^");
        Setups.error(SYNTAX, BASE + "kitchen a^");
        Setups.error(SYNTAX, BASE + "swap 0^");
        Setups.error(SYNTAX, BASE + "swap 0 ^a");
        Setups.error(SYNTAX, BASE + "clear^");
        Setups.error(SYNTAX, BASE + "even^");
        Setups.error(SYNTAX, BASE + "copy a^");
        Setups.error(SYNTAX, BASE + "copy a ^0");
        Setups.error(SYNTAX, HEAD + "repeat ^(fill)");
        Setups.error(SYNTAX, HEAD + "repeat 2 ^fill");
        Setups.error(SYNTAX, HEAD + "repeat 2^");
        Setups.error(SYNTAX, HEAD + "repeat 2 (^");
        Setups.error(SYNTAX, HEAD + "repeat 2 (^)");
        Setups.error(SYNTAX, HEAD + "repeat 2 (^;fill)");
        Setups.error(SYNTAX, HEAD + "repeat 2 (fill^");
        Setups.error(SYNTAX, HEAD + "repeat 2 (fill;^)");
        Setups.error(SYNTAX, HEAD + "repeat 2 (fill ^(");
        Setups.error(SYNTAX, HEAD + "repeat 2 (fill)^)");
        Setups.error(SYNTAX, HEAD + "repeat 2 (fill) ^fill");
        Setups.error(SYNTAX, HEAD + "repeat 2 (repeat 2 (fill)^");
        Setups.error(SYNTAX, HEAD + "repeat 2 (repeat 2 (fill) ^fill)");
    }

    private static void rangeErrors() {
        Setups.error(RANGE, "panel ^901 0");
        Setups.error(RANGE, "panel ^999 99");
        Setups.error(RANGE, "panel 900 ^11");
        Setups.error(RANGE, "panel 0 0;person ^abcdefg 1");
        Setups.error(RANGE, "panel 0 0;person ^abcdefgh 1");
        Setups.error(RANGE, "panel 0 0;person a ^10");
        Setups.error(RANGE, BASE + "taster ^abcdefg 1 1 1 1 1");
        Setups.error(RANGE, BASE + "taster c ^0 1 1 1 1");
        Setups.error(RANGE, BASE + "taster c ^7 1 1 1 1");
        Setups.error(RANGE, BASE + "taster c 1 ^10 1 1 1");
        Setups.error(RANGE, BASE + "taster c 1 1 1 1 ^10");
        Setups.error(RANGE, BASE + "pancake ^4 a");
        Setups.error(RANGE, BASE + "pancake 0 ^abcdefg");
        Setups.error(RANGE, HEAD + "person a 1;taster a 1 1 1 1 1;bid a ^0 1");
        Setups.error(RANGE, BASE + "bid a ^2 1");
        Setups.error(RANGE, BASE + "bid a 0 ^4");
        Setups.error(RANGE, BASE + "bid ^personb 0 1");
        Setups.error(RANGE, BASE + "together ^personb a");
        Setups.error(RANGE, BASE + "together a ^personb");
        Setups.error(RANGE, BASE + "conflict a ^2");
        Setups.error(RANGE, BASE + "seat a ^2");
        Setups.error(RANGE, BASE + "leave a ^2");
        Setups.error(RANGE, BASE + "score a ^2 0");
        Setups.error(RANGE, BASE + "seat a 0;score a 0 ^0");
        Setups.error(RANGE, BASE + "seat a 0;score a 0 ^10");
        Setups.error(RANGE, BASE + "talk ^2");
        Setups.error(RANGE, BASE + "limit a ^0");
        Setups.error(RANGE, BASE + "limit a ^7");
        Setups.error(RANGE, BASE + "kitchen a ^10");
        Setups.error(RANGE, BASE + "swap ^2 0");
        Setups.error(RANGE, BASE + "swap 0 ^2");
        Setups.error(RANGE, BASE + "clear ^2");
        Setups.error(RANGE, BASE + "even ^2");
        Setups.error(RANGE, BASE + "copy a ^personb");
        Setups.error(RANGE, HEAD + "repeat ^0 (fill)");
        Setups.error(RANGE, HEAD + "repeat ^10 (fill)");
    }

    private static void nameErrors() {
        Setups.error(NAME, BASE + "person ^a 5");
        Setups.error(NAME, BASE + "person ^d 10");
        Setups.error(NAME, BASE + "taster ^x 1 1 1 1 1");
        Setups.error(NAME, BASE + "taster ^a 1 1 1 1 1");
        Setups.error(NAME, BASE + "taster ^aa 1 1 1 1 1");
        Setups.error(NAME, BASE + "pancake 0 ^x");
        Setups.error(NAME, BASE + "pancake 0 a ^a");
        Setups.error(NAME, BASE + "pancake 0 a b ^a");
        Setups.error(NAME, BASE + "pancake 0 a b ^b");
        Setups.error(NAME, BASE + "pancake 0 a ^fill");
        Setups.error(NAME, BASE + "bid ^x 0 1");
        Setups.error(NAME, BASE + "bid ^c 0 1");
        Setups.error(NAME, BASE + "together ^x a");
        Setups.error(NAME, BASE + "together a ^x");
        Setups.error(NAME, BASE + "together a ^a");
        Setups.error(NAME, BASE + "together a b;together a ^b");
        Setups.error(NAME, BASE + "together a b;together b ^a");
        Setups.error(NAME, BASE + "conflict ^x 0");
        Setups.error(NAME, BASE + "seat ^x 0");
        Setups.error(NAME, BASE + "leave ^x 0");
        Setups.error(NAME, BASE + "score ^x 0 1");
        Setups.error(NAME, BASE + "limit ^x 1");
        Setups.error(NAME, BASE + "limit ^c 1");
        Setups.error(NAME, BASE + "kitchen ^x 1");
        Setups.error(NAME, BASE + "swap 1 ^1");
        Setups.error(NAME, BASE + "copy ^x a");
        Setups.error(NAME, BASE + "copy ^c a");
        Setups.error(NAME, BASE + "copy a ^x");
        Setups.error(NAME, BASE + "copy a ^c");
        Setups.error(NAME, BASE + "copy a ^a");
    }

    private static void limitErrors() {
        String full = HEAD + persons(16);
        Setups.error(LIMIT, full + ";^person zz 1");
        Setups.error(LIMIT, full + ";^person a 99");
        Setups.error(LIMIT, full + ";^person");
        Setups.valid(HEAD + persons(16) + pancakes(10));
        Setups.error(LIMIT, HEAD + persons(4) + pancakes(10) + ";^pancake 0 a");
        Setups.error(LIMIT, HEAD + persons(4) + pancakes(10) + ";^pancake");
        Setups.valid(HEAD + persons(4) + ";pancake 0 a b c");
        Setups.error(LIMIT, HEAD + persons(4) + ";pancake 0 a b c ^d");
        Setups.error(LIMIT, BASE + "seat c ^0");
        Setups.error(LIMIT, BASE + "seat d ^1");
        Setups.error(LIMIT, BASE + "seat a 0;seat a ^0");
        Setups.error(LIMIT, BASE + "seat b 0;seat b ^1");
        Setups.error(LIMIT, BASE + "conflict a 0;seat a ^0");
        Setups.error(LIMIT, BASE + "kitchen a 3;seat a ^0");
        Setups.error(LIMIT, BASE + "together c a;seat a ^0");
        Setups.error(LIMIT, BASE + "person e 5;taster e 1 1 1 1 1;seat a 0;seat b 0;seat d 0;seat e ^0");
        Setups.error(LIMIT, BASE + "leave a ^0");
        Setups.error(LIMIT, BASE + "seat a 0;leave a ^1");
        Setups.error(LIMIT, BASE + "seat a 0;leave a 0;leave a ^0");
        Setups.error(LIMIT, BASE + "score a ^0 1");
        Setups.error(LIMIT, BASE + "score c ^0 10");
        Setups.error(LIMIT, BASE + "conflict a 0;conflict a ^0");
        Setups.error(LIMIT, BASE + "talk ^0");
        Setups.error(LIMIT, BASE + "seat a 0;seat b 0;score a 0 1;talk ^0");
        Setups.error(LIMIT, BASE + "even ^0");
        Setups.error(LIMIT, BASE + "seat a 0;score a 0 1;even ^0");
        Setups.error(LIMIT, HEAD + "repeat 1 (repeat 1 (^repeat 1 (fill)))");
        Setups.error(LIMIT, HEAD + "repeat 1 (fill;repeat 1 (fill;^repeat");
    }

    private static String persons(int count) {
        StringBuilder text = new StringBuilder("person a 0");
        for (int i = 1; i < count; i++) {
            text.append(";person ").append((char) ('a' + i)).append(' ').append(i % 10);
        }
        return text.toString();
    }

    private static String pancakes(int count) {
        return ";pancake 0 a".repeat(count);
    }

    private static void smallestCodeFirst() {
        Setups.error(RANGE, BASE + "taster ^unknown 1 1 1 1 1");
        Setups.error(RANGE, BASE + "pancake 0 a b c ^unknown");
        Setups.error(NAME, BASE + "pancake 0 a b c ^x");
        Setups.error(NAME, BASE + "pancake 0 a b c ^b");
        Setups.error(RANGE, BASE + "seat c ^7");
        Setups.error(SYNTAX, BASE + "seat c ^1000");
        Setups.error(RANGE, BASE + "talk ^9");
        Setups.error(RANGE, BASE + "swap 1 ^2");
        Setups.error(SYNTAX, HEAD + "repeat 1 (repeat 1 (^repeats");
    }

    private static void repeats() {
        PancakePanel panel = Setups.valid(BASE + "seat a 0;seat b 0;score a 0 9;score b 0 1;repeat 3 (talk 0);fill");
        Check.same("three talks", panel.talkCount(), 3);
        Check.same("talked down", panel.scoreOf(0, 0), 6);
        panel = Setups.valid(BASE + "seat a 0;seat b 0;score a 0 9;score b 0 1;"
            + "repeat 2 (talk 0;repeat 3 (talk 0;even 0); talk 0)");
        Check.same("nested talks", panel.talkCount(), 10);
        panel = Setups.valid(BASE + "seat a 0;seat b 0;score a 0 9;score b 0 1;repeat 9(repeat 9(talk 0));"
            + "repeat 1(talk 0);repeat 1 (repeat 1 (talk 0);repeat 2 (talk 0))");
        Check.same("eighty-five talks", panel.talkCount(), 85);
        Setups.error(NAME, HEAD + "repeat 2 (person ^a 1)");
        Setups.valid(HEAD + "repeat 1 (person a 1)");
        Setups.error(LIMIT, BASE + "person f 9;repeat 9 (^pancake 0 f)");
        Setups.valid(BASE + "person f 9;repeat 8 (pancake 0 f)");
        Setups.error(LIMIT, BASE + "repeat 2 (seat a ^0)");
        Setups.error(LIMIT, BASE + "seat a 0;repeat 2 (leave a ^0)");
        Setups.error(NAME, BASE + "repeat 3 (repeat 1 (together a ^b))");
        Setups.error(SYNTAX, HEAD + "repeat 2 (fill;^x)");
    }

    private static void spaces() {
        PancakePanel panel = Setups.valid("  panel900 10;person ab1;person b 002 ;pancake3ab b");
        Check.same("ab", Panels.name(panel, 0), "ab");
        Check.same("kitchen of ab", panel.kitchenOf(0), 1);
        Check.same("kitchen of b", panel.kitchenOf(1), 2);
        Check.same("cooks", panel.cookCount(0), 2);
        Check.same("topic", panel.topicOf(0), 3);
        Setups.error(SYNTAX, "panel 0 0;^per son a 1");
        Setups.valid("panel 0 0;person person 1;person fill 2;person panel 3;pancake 0 person fill panel");
    }

    private static void personItems() {
        PancakePanel panel = Setups.valid("panel 900 10;person abcdef 0;person b 9;taster b 6 0 9 1 2;taster abcdef 1 9 8 7 6");
        Check.same("longest name", Panels.name(panel, 0), "abcdef");
        Check.same("kitchen 9", panel.kitchenOf(1), 9);
        Check.same("limit", panel.limitOf(1), 6);
        Check.same("taste 1", panel.tasteOf(1, 1), 9);
        Check.same("taste 3", panel.tasteOf(0, 3), 6);
        panel = Setups.valid(BASE + "limit a 6;kitchen a 3;bid a 1 3;bid a 0 2;copy a d;copy b a");
        Check.same("limit set", panel.limitOf(0), 6);
        Check.same("kitchen set", panel.kitchenOf(0), 3);
        Check.same("kitchen gives a conflict", panel.conflict(0, 0), 2);
        Check.same("copied bids", Panels.bids(panel, 3), "23!");
        Check.same("copied bid", panel.bidOf(3, 0), 2);
        Check.same("copied second bid", panel.bidOf(3, 1), 3);
        Check.same("copied away", panel.bidOf(0, 1), 0);
        panel = Setups.valid(BASE + "together a c;conflict b 1");
        Check.same("together", panel.conflict(0, 0), 3);
        Check.same("together with one of two", panel.conflict(0, 1), 3);
        Check.same("conflict", panel.conflict(1, 1), 4);
    }

    private static void seatItems() {
        PancakePanel panel = Setups.valid(BASE + "seat d 0;seat a 0;fill");
        Check.same("seats and fill", Panels.seats(panel, 0), "3,0");
        Check.same("seats filled", Panels.seats(panel, 1), "0,1");
        Check.same("fill counts", panel.fillCount(), 2);
        Check.same("undo after a setup", panel.undoCount(), 0);
        panel = Setups.valid(BASE + "seat d 0;seat a 0;score d 0 4;leave d 0");
        Check.same("leave", Panels.pancake(panel, 0), "a=?/0");
        Check.same("leave takes the score", panel.scoreOf(3, 0), 0);
        panel = Setups.valid(BASE + "seat d 0;seat a 0;seat a 1;score d 0 4;score a 1 5;clear 0;clear 0");
        Check.same("clear takes the seats", panel.seatCount(0), 0);
        Check.same("clear takes the scores", panel.scoreOf(3, 0), 0);
        Check.same("clear spares the others", panel.scoreOf(0, 1), 5);
        Check.same("average after clear", panel.averageScore(), 5.0);
        panel = Setups.valid(BASE + "seat a 0;seat a 1;limit a 1;kitchen a 3");
        Check.same("seats stay after limit and kitchen", panel.loadOf(0), 2);
        Check.same("imbalance after limit and kitchen", panel.imbalance(), 3);
    }

    private static void scoreItems() {
        String seats = BASE + "seat a 0;seat b 0;seat d 0;";
        PancakePanel panel = Setups.valid(seats + "score a 0 9;score b 0 2;score d 0 4;talk 0");
        Check.same("talk", Panels.pancake(panel, 0), "a=8,b=3,d=4/500");
        Check.same("talks", panel.talkCount(), 1);
        Check.same("changes", panel.changeCount(), 2);
        panel = Setups.valid(seats + "score a 0 9;score b 0 2;score d 0 4;even 0");
        Check.same("even", Panels.pancake(panel, 0), "a=4,b=4,d=4/400");
        Check.same("even is no talk", panel.talkCount(), 0);
        Check.same("even is no change", panel.changeCount(), 0);
        panel = Setups.valid(seats + "score a 0 9;score d 0 4;even 0");
        Check.same("even of three", Panels.pancake(Setups.valid(seats + "score a 0 1;score b 0 9;score d 0 5;even 0"), 0),
            "a=5,b=5,d=5/500");
        Check.same("even of two", Panels.pancake(panel, 0), "a=4,b=?,d=4/400");
        panel = Setups.valid(seats + "score a 0 9;score a 0 1");
        Check.same("score again", panel.scoreOf(0, 0), 1);
        Check.same("one score", panel.scoreCount(0), 1);
    }

    private static void otherItems() {
        PancakePanel panel = Setups.valid("panel 101 1;" + BASE.substring(HEAD.length()) + "swap 1 0");
        Check.same("swapped topic", panel.topicOf(0), 3);
        Check.same("other swapped topic", panel.topicOf(1), 0);
        Check.same("cooks stay", panel.cookCount(1), 2);
        Check.same("no pancakes", Setups.valid("panel 0 0").pancakeCount(), 0);
        Check.same("no persons", Setups.valid("panel 0 0;fill").personCount(), 0);
    }

    /** A setup of 500 bytes, all of them tokens, each taken up to 81 times. */
    private static void longest() {
        String items = "fill;".repeat(93);
        String text = "panel 0 0;repeat 9(repeat 9(fill;" + items + "))";
        text = text.substring(0, text.length() - 3) + "))";
        Check.same("length of the longest", text.length(), 499);
        Setups.valid(text);
        PancakePanel panel = new PancakePanel();
        for (int i = 0; i < 25; i++) {
            panel.append(0x3b3b3b3b, 0x3b3b3b3b, 0x3b3b3b3b, 0x3b3b3b3b, 0x3b3b3b3b);
        }
        Check.refused("500 semicolons", () -> panel.parseSetup(500));
        Check.same("position of the first", panel.parseErrorPosition(), 0);
        Check.same("buffer is empty", panel.bufferLength(), 0);
    }
}
