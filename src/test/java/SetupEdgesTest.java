/** Section 7, sentence by sentence: the tokens, the grammar, each range, each error code and its position. */
public final class SetupEdgesTest {
    private static final int SYNTAX = PancakePanel.SYNTAX_ERROR;
    private static final int RANGE = PancakePanel.RANGE_ERROR;
    private static final int NAME = PancakePanel.NAME_ERROR;
    private static final int LIMIT = PancakePanel.LIMIT_ERROR;
    private static final String HEAD = "panel 0 0;";
    // a and b taste, c cooks both pancakes, friend tastes nothing.
    private static final String TWO = "panel 0 0;person a 1;person b 2;person c 3;person friend 4;"
        + "taster a 6 0 0 0 0;taster b 6 0 0 0 0;pancake 0 c;pancake 0 c;";
    private static final String SEATED = TWO + "seat a 0;seat b 0;seat a 1;seat b 1;";
    private static final String SCORED = SEATED + "score a 0 9;score b 0 1;score a 1 9;score b 1 1;";
    private static final String TASTING = TWO + "taster friend 6 0 0 0 0;";
    private static final String[] NAMES_OF_KEYWORDS = {"panel", "person", "taster", "bid", "seat", "fill", "leave",
        "score", "talk", "limit", "swap", "clear", "even", "copy", "repeat"};
    // Each item with what must stand ahead of it, so that it is possible.
    private static final String[][] ITEMS = {{TWO, "person d 4"}, {TWO, "taster c 1 0 0 0 0"}, {TWO, "pancake 3 a"},
        {TWO, "bid a 0 1"}, {TWO, "together a b"}, {TWO, "conflict a 0"}, {TWO, "seat a 0"}, {TWO, "fill"},
        {SEATED, "leave a 0"}, {SEATED, "score a 0 5"}, {SCORED, "talk 0"}, {TWO, "limit a 1"}, {TWO, "kitchen a 1"},
        {TWO, "swap 0 1"}, {TWO, "clear 0"}, {SCORED, "even 0"}, {TWO, "copy a b"}, {TWO, "repeat 2 ( fill )"},
        {"", "panel 0 0"}};
    // Each place for a name of a person, written as #; "friend" fits there.
    private static final String[] NAME_PLACES = {TWO + "taster # 1 1 1 1 1", TWO + "pancake 0 #", TWO + "pancake 0 a #",
        TWO + "pancake 0 a b #", TASTING + "bid # 0 1", TWO + "together # a", TWO + "together a #",
        TWO + "conflict # 0", TASTING + "seat # 0", TASTING + "seat friend 0;leave # 0",
        TASTING + "seat friend 0;score # 0 1", TASTING + "limit # 1", TWO + "kitchen # 1", TASTING + "copy # a",
        TASTING + "copy a #"};
    // Each place for a number of a pancake.
    private static final String[] PANCAKE_PLACES = {TWO + "bid a # 1", TWO + "conflict a #", TWO + "seat a #",
        SEATED + "leave a #", SEATED + "score a # 5", SCORED + "talk #", TWO + "clear #", SCORED + "even #"};

    private SetupEdgesTest() {
    }

    public static void main(String[] args) {
        bytesThatStartNoToken();
        longestTokens();
        endsOfTokens();
        spacesBetweenTokens();
        leadingZeros();
        earlyEnds();
        wrongTokens();
        tokensBehindAnItem();
        ranges();
        rangesOfPancakes();
        pancakesOfNone();
        pancakesOfTen();
        lengthsOfNames();
        keywordsAsNames();
        takenNames();
        unknownNames();
        tastersAlready();
        tastersNotYet();
        cooksAlready();
        togetherAlready();
        secondsThatAreFirst();
        seventeenthPerson();
        eleventhPancake();
        fourthCook();
        refusedSeats();
        pancakesNotTasted();
        conflictsAlready();
        lessThanTwoScores();
        thirdRepeat();
        smallestCode();
        firstToken();
        Check.finish();
    }

    private static void error(int code, String marked) {
        Setups.error(code, marked);
    }

    /** The text with a token in the place of #, marked as the one with the error. */
    private static void errorAt(int code, String text, String token) {
        error(code, text.replace("#", "^" + token));
    }

    private static PancakePanel valid(String text) {
        return Setups.valid(text);
    }

    // ---- tokens

    private static void bytesThatStartNoToken() {
        for (char sign = 0; sign < 256; sign++) {
            boolean isKnown = sign >= 'a' && sign <= 'z' || sign >= '0' && sign <= '9' || "; ()".indexOf(sign) >= 0;
            if (!isKnown) {
                error(SYNTAX, "^" + sign + "panel 0 0");
                error(SYNTAX, "panel 0 0;^" + sign);
                error(SYNTAX, "panel 0 0^" + sign);
                error(SYNTAX, "panel^" + sign + "0 0");
                error(SYNTAX, "panel 0 0;person a^" + sign + "1");
            }
        }
    }

    private static void longestTokens() {
        valid(TWO + "together a b");
        valid(TWO + "conflict a 0");
        error(SYNTAX, TWO + "^togetherx a b");
        error(SYNTAX, TWO + "^conflicta 0");
        error(SYNTAX, TWO + "^abcdefgh");
        error(SYNTAX, TWO + "^" + "x".repeat(300));
        error(RANGE, TWO + "kitchen ^abcdefgh 0");
        error(SYNTAX, TWO + "kitchen ^abcdefghi 0");
        valid("panel 900 010");
        error(SYNTAX, "panel ^0900 0");
        error(SYNTAX, "panel 0 ^0010");
        error(SYNTAX, "panel 0 ^" + "0".repeat(490));
        error(SYNTAX, "panel ^4294967296 0");
        error(SYNTAX, "panel ^18446744073709551616 0");
    }

    private static void endsOfTokens() {
        PancakePanel panel = valid("panel900 10;person ab1;person b9;taster b6 9 8 7 6;pancake3ab b;repeat2(fill)");
        Check.same("a word ends at a digit", Panels.name(panel, 0), "ab");
        Check.same("a number ends at a letter", panel.topicOf(0), 3);
        Check.same("cooks behind it", panel.cookCount(0), 2);
        Check.same("a number ends at a semicolon", panel.tasteOf(1, 3), 6);
        error(SYNTAX, "panel 0 0;person a^B 1");
        error(SYNTAX, "panel 0 0;^personab 1");
        error(SYNTAX, "panel 0 0;^filling");
        error(SYNTAX, "panel ^1000");
        error(SYNTAX, "panel 100^");
        error(SYNTAX, "panel 1^.0 0");
    }

    private static void spacesBetweenTokens() {
        PancakePanel panel = valid("   panel  0   0  ;  person   a  7  ;repeat  2  (  fill  ;  fill  )  ");
        Check.same("a person between spaces", panel.kitchenOf(0), 7);
        valid("panel 0 0");
        error(SYNTAX, "panel 0 0;^pers on a 1");
        error(SYNTAX, "panel 9 0 ^0");
        error(SYNTAX, "panel 0 0^\t");
        error(SYNTAX, "panel 0 0;^\nfill");
        error(SYNTAX, "panel 0 0;^\u00a0fill");
    }

    private static void leadingZeros() {
        PancakePanel panel = valid("panel 000 09;person a 009;person b 01;taster b 006 00 01 002 03;pancake 003 a;"
            + "bid b 000 003;seat b 00;score b 0 009;repeat 002(fill)");
        Check.same("kitchen", panel.kitchenOf(0), 9);
        Check.same("limit", panel.limitOf(1), 6);
        Check.same("taste", panel.tasteOf(1, 2), 2);
        Check.same("topic", panel.topicOf(0), 3);
        Check.same("bid", panel.bidOf(1, 0), 3);
        Check.same("score", panel.scoreOf(1, 0), 9);
        error(SYNTAX, "panel 0 0;person a ^0009");
        error(RANGE, "panel 0 0;person a ^010");
    }

    // ---- the grammar

    private static String join(String[] tokens, int end) {
        StringBuilder text = new StringBuilder();
        for (int i = 0; i < end; i++) {
            text.append(i == 0 ? "" : " ").append(tokens[i]);
        }
        return text.toString();
    }

    /** "the setup ends too early": the position is the number of parsed bytes. */
    private static void earlyEnds() {
        for (String[] item : ITEMS) {
            String[] tokens = item[1].split(" ");
            for (int end = 0; end < tokens.length; end++) {
                error(SYNTAX, item[0] + join(tokens, end) + "^");
                error(SYNTAX, item[0] + join(tokens, end) + "    ^");
            }
            valid(item[0] + item[1]);
            valid(item[0] + item[1] + "    ");
            error(SYNTAX, item[0] + item[1] + ";^");
        }
        error(SYNTAX, TWO + "repeat 2 (fill;^");
        error(SYNTAX, TWO + "repeat 2 (repeat 2 (fill)^");
        PancakePanel panel = new PancakePanel();
        Panels.append(panel, "panel 0 0;fill;person a 1");
        Check.refused("a length that cuts the text", () -> panel.parseSetup(15));
        Check.same("position of the cut", panel.parseErrorPosition(), 15);
    }

    /** "the grammar does not allow the token here": every other kind in the place of each token. */
    private static void wrongTokens() {
        for (String[] item : ITEMS) {
            String[] tokens = item[1].split(" ");
            for (int place = 0; place < tokens.length; place++) {
                String before = item[0] + join(tokens, place) + (place == 0 ? "" : " ");
                for (String wrong : new String[] {"7", "x", ";", "(", ")", "abcdefghi", "1234", ",", "panels"}) {
                    if (isOfOtherKind(wrong, tokens[place], place)) {
                        error(SYNTAX, before + "^" + wrong + " 0 0 0");
                    }
                }
            }
        }
        error(SYNTAX, TWO + "^panel 0 0");
        error(SYNTAX, "^person a 1");
    }

    private static boolean isOfOtherKind(String wrong, String token, int place) {
        boolean isWord = Character.isLetter(token.charAt(0));
        boolean isNumber = Character.isDigit(token.charAt(0));
        switch (wrong) {
            case "7": return !isNumber;
            case "x": case "panels": return !isWord || place == 0 || token.equals("fill");
            // A semicolon and a further item may stand in the place of a bracket that closes.
            case ";": return !token.equals(")");
            default: return !wrong.equals(token);
        }
    }

    private static void tokensBehindAnItem() {
        for (String[] item : ITEMS) {
            for (String wrong : new String[] {"7", "(", ")", "abcdefghi", "1234", "?"}) {
                error(SYNTAX, item[0] + item[1] + " ^" + wrong);
            }
            if (!item[1].startsWith("pancake")) {
                error(SYNTAX, item[0] + item[1] + " ^fill");
            }
            valid(item[0] + item[1] + ";fill");
        }
        error(SYNTAX, TWO + "fill;^;fill");
        error(SYNTAX, TWO + "pancake 0 a b c ^7");
        error(SYNTAX, TWO + "repeat 2 (fill ^7)");
        error(SYNTAX, TWO + "repeat 2 (^)");
        error(SYNTAX, TWO + "repeat 2 (fill;^)");
        error(SYNTAX, TWO + "repeat 2 (fill)^)");
        error(SYNTAX, TWO + "repeat 2 (fill;^panel 0 0)");
    }

    // ---- ranges

    private static void range(String text, int least, int greatest) {
        valid(text.replace("#", "" + least));
        valid(text.replace("#", "" + greatest));
        valid(text.replace("#", String.format("%03d", greatest)));
        if (least > 0) {
            errorAt(RANGE, text, "" + (least - 1));
            errorAt(RANGE, text, "000");
        }
        errorAt(RANGE, text, "" + (greatest + 1));
        errorAt(RANGE, text, "999");
        errorAt(SYNTAX, text, "1000");
        errorAt(SYNTAX, text, String.format("%04d", greatest));
        errorAt(SYNTAX, text, "-1");
    }

    private static void ranges() {
        range("panel # 0", 0, 900);
        range("panel 0 #", 0, 10);
        range(HEAD + "person a #", 0, 9);
        range(TWO + "taster c # 0 0 0 0", 1, 6);
        range(TWO + "taster c 1 # 0 0 0", 0, 9);
        range(TWO + "taster c 1 0 # 0 0", 0, 9);
        range(TWO + "taster c 1 0 0 # 0", 0, 9);
        range(TWO + "taster c 1 0 0 0 #", 0, 9);
        range(TWO + "pancake # a", 0, 3);
        range(TWO + "bid a 0 #", 0, 3);
        range(SEATED + "score a 0 #", 1, 9);
        range(TWO + "limit a #", 1, 6);
        range(TWO + "kitchen a #", 0, 9);
        range(TWO + "repeat # (fill)", 1, 9);
    }

    private static void rangesOfPancakes() {
        for (String text : PANCAKE_PLACES) {
            range(text, 0, 1);
        }
        for (String wrong : new String[] {"2", "003", "999"}) {
            errorAt(RANGE, TWO + "swap # 0", wrong);
            errorAt(RANGE, TWO + "swap 0 #", wrong);
        }
        valid(TWO + "swap 0 1");
        valid(TWO + "swap 1 0");
    }

    private static void pancakesOfNone() {
        String one = HEAD + "person a 1;taster a 1 1 1 1 1;";
        for (String item : new String[] {"bid a # 1", "conflict a #", "seat a #", "leave a #", "score a # 1", "talk #",
            "swap # 0", "clear #", "even #"}) {
            errorAt(RANGE, one + item, "0");
        }
    }

    private static void pancakesOfTen() {
        String ten = HEAD + "person a 1;person x 2;taster a 1 1 1 1 1" + ";pancake 0 x".repeat(10);
        Check.same("the tenth pancake", valid(ten + ";seat a 9").seatAt(9, 0), 0);
        error(RANGE, ten + ";seat a ^10");
        String nine = HEAD + "person a 1;person x 2;taster a 1 1 1 1 1" + ";pancake 0 x".repeat(9);
        error(RANGE, nine + ";seat a ^9");
        error(RANGE, nine + ";seat a ^9;pancake 0 x");
        valid(nine + ";pancake 0 x;seat a 9");
    }

    private static void lengthsOfNames() {
        Check.same("a name of 1 letter", Panels.name(valid(HEAD + "person z 1"), 0), "z");
        Check.same("a name of 6 letters", Panels.name(valid(HEAD + "person zyxwvu 1"), 0), "zyxwvu");
        error(RANGE, HEAD + "person ^zyxwvut 1");
        error(RANGE, HEAD + "person ^zyxwvuts 1");
        error(SYNTAX, HEAD + "person ^zyxwvutsr 1");
        for (String text : NAME_PLACES) {
            valid(text.replace("#", "friend"));
            errorAt(RANGE, text, "friends");
            errorAt(RANGE, text, "friendly");
            errorAt(SYNTAX, text, "friendlya");
            errorAt(NAME, text, "frien");
        }
    }

    private static void keywordsAsNames() {
        StringBuilder text = new StringBuilder("panel 0 0");
        for (String name : NAMES_OF_KEYWORDS) {
            text.append(";person ").append(name).append(" 1");
        }
        PancakePanel panel = valid(text + ";taster repeat 1 1 1 1 1;pancake 0 fill panel person;bid repeat 0 1");
        Check.same("all are persons", panel.personCount(), NAMES_OF_KEYWORDS.length);
        Check.same("the last one", Panels.name(panel, 14), "repeat");
        Check.same("a keyword as a cook", panel.cookAt(0, 0), 5);
        error(NAME, HEAD + "person a 1;pancake 0 a ^fill");
        for (String name : new String[] {"pancake", "together", "conflict", "kitchen"}) {
            error(RANGE, HEAD + "person ^" + name + " 1");
        }
    }

    // ---- names

    private static void takenNames() {
        error(NAME, TWO + "person ^a 1");
        error(NAME, TWO + "person ^friend 1");
        error(NAME, HEAD + "person q 1;person ^q 2");
        PancakePanel panel = valid(HEAD + "person q 1;person qq 1;person r 1;person rq 1;person qr 1");
        Check.same("no names are the same", panel.personCount(), 5);
    }

    private static void unknownNames() {
        for (String text : NAME_PLACES) {
            errorAt(NAME, text, "x");
            errorAt(NAME, text, "frienf");
        }
        error(NAME, HEAD + "taster ^a 1 1 1 1 1;person a 1");
        error(NAME, HEAD + "pancake 0 ^a");
    }

    private static void tastersAlready() {
        error(NAME, TWO + "taster ^a 6 0 0 0 0");
        error(NAME, TWO + "taster c 1 0 0 0 0;taster ^c 1 0 0 0 0");
        valid(TWO + "taster c 1 0 0 0 0;taster friend 1 0 0 0 0");
    }

    private static void tastersNotYet() {
        error(NAME, TWO + "bid ^c 0 1");
        error(NAME, TWO + "limit ^c 1");
        error(NAME, TWO + "copy ^c a");
        error(NAME, TWO + "copy a ^c");
        error(NAME, TWO + "bid ^friend 0 1;taster friend 1 0 0 0 0");
        valid(TWO + "taster c 1 0 0 0 0;bid c 0 1;limit c 1;copy c a;copy a c");
        valid(TWO + "kitchen c 1;conflict c 0;together c a");
    }

    private static void cooksAlready() {
        error(NAME, TWO + "pancake 0 a ^a");
        error(NAME, TWO + "pancake 0 a b ^a");
        error(NAME, TWO + "pancake 0 a b ^b");
        Check.same("a cook of two pancakes", valid(TWO + "pancake 0 a b c;pancake 0 c b a").cookAt(3, 2), 0);
    }

    private static void togetherAlready() {
        error(NAME, TWO + "together a ^a");
        error(NAME, TWO + "together a b;together a ^b");
        error(NAME, TWO + "together a b;together b ^a");
        valid(TWO + "together a b;together b c;together c a");
    }

    private static void secondsThatAreFirst() {
        error(NAME, TWO + "swap 0 ^0");
        error(NAME, TWO + "swap 1 ^001");
        error(NAME, TWO + "copy a ^a");
        error(NAME, TWO + "copy b ^b");
    }

    // ---- limits

    private static String persons(int count) {
        StringBuilder text = new StringBuilder("panel 0 0");
        for (int i = 0; i < count; i++) {
            text.append(";person ").append((char) ('a' + i)).append(" 0");
        }
        return text.toString();
    }

    private static void seventeenthPerson() {
        Check.same("sixteen persons", valid(persons(16)).personCount(), 16);
        error(LIMIT, persons(16) + ";^person q 0");
        error(LIMIT, persons(16) + ";fill;^person q 0");
        error(LIMIT, persons(16) + ";^person");
        error(LIMIT, persons(16) + ";repeat 1 (^person q 0)");
        error(NAME, persons(15) + ";person ^a 0");
    }

    private static void eleventhPancake() {
        String ten = HEAD + "person x 0" + ";pancake 0 x".repeat(10);
        Check.same("ten pancakes", valid(ten).pancakeCount(), 10);
        error(LIMIT, ten + ";^pancake 0 x");
        error(LIMIT, ten + ";^pancake 9");
        error(LIMIT, ten + ";repeat 1 (fill;^pancake 0 x)");
    }

    private static void fourthCook() {
        Check.same("one cook", valid(TWO + "pancake 0 a").cookCount(2), 1);
        Check.same("three cooks", valid(TWO + "pancake 0 a b c").cookCount(2), 3);
        error(LIMIT, TWO + "pancake 0 a b c ^friend");
        error(LIMIT, TWO + "pancake 0 c b a ^friend friend");
    }

    private static void refusedSeats() {
        error(LIMIT, TWO + "seat friend ^0");
        error(LIMIT, SEATED + "seat a ^0");
        error(LIMIT, TWO + "taster c 6 0 0 0 0;seat c ^0");
        error(LIMIT, TWO + "kitchen a 3;seat a ^0");
        error(LIMIT, TWO + "together a c;seat a ^0");
        error(LIMIT, TWO + "conflict a 1;seat a 0;seat a ^1");
        error(LIMIT, TWO + "limit a 1;seat a 0;seat a ^1");
        error(LIMIT, TWO + "seat a 0;seat a 1;limit a 1;pancake 0 c;seat a ^2");
        String full = TWO + "person d 5;person e 6;taster d 6 0 0 0 0;taster e 6 0 0 0 0;seat a 0;seat b 0;seat d 0;";
        error(LIMIT, full + "seat e ^0");
        Check.same("a seat that is free again", valid(full + "leave a 0;seat e 0").seatCount(0), 3);
    }

    private static void pancakesNotTasted() {
        error(LIMIT, TWO + "leave a ^0");
        error(LIMIT, TWO + "score a ^0 5");
        error(LIMIT, TWO + "seat a 0;leave a ^1");
        error(LIMIT, TWO + "seat a 0;score a ^1 5");
        error(LIMIT, TWO + "seat a 0;leave b ^0");
        error(LIMIT, SEATED + "leave a 0;leave a ^0");
        error(LIMIT, SEATED + "clear 0;score a ^0 5");
        error(LIMIT, SEATED + "leave friend ^0");
        error(LIMIT, SEATED + "score friend ^0 5");
        valid(SEATED + "score a 0 5;score a 0 5");
    }

    private static void conflictsAlready() {
        error(LIMIT, TWO + "conflict a 0;conflict a ^0");
        error(LIMIT, TWO + "conflict friend 1;conflict friend ^1");
        valid(TWO + "conflict a 0;conflict a 1;conflict b 0");
        valid(TWO + "conflict c 0");
        valid(TWO + "kitchen a 3;conflict a 0");
    }

    private static void lessThanTwoScores() {
        for (String item : new String[] {"talk", "even"}) {
            error(LIMIT, TWO + item + " ^0");
            error(LIMIT, SEATED + item + " ^0");
            error(LIMIT, SEATED + "score a 0 1;" + item + " ^0");
            error(LIMIT, SEATED + "score a 0 1;score a 1 1;" + item + " ^1");
            error(LIMIT, SCORED + "leave a 0;" + item + " ^0");
            valid(SEATED + "score a 0 1;score b 0 1;" + item + " 0");
        }
    }

    private static void thirdRepeat() {
        valid(HEAD + "repeat 1 (repeat 1 (fill))");
        error(LIMIT, HEAD + "repeat 1 (repeat 1 (^repeat 1 (fill)))");
        error(LIMIT, HEAD + "repeat 1 (repeat 1 (^repeat");
        error(LIMIT, HEAD + "repeat 1 (fill;repeat 1 (fill);repeat 1 (fill;^repeat 1 (fill)))");
        valid(HEAD + "repeat 1 (repeat 1 (fill);repeat 1 (fill));repeat 1 (repeat 1 (fill))");
    }

    // ---- which error, and which token

    private static void smallestCode() {
        error(SYNTAX, TWO + "kitchen ^unknownxy 0");
        error(SYNTAX, TWO + "score a ^1000 0");
        error(SYNTAX, persons(16) + ";fill ^person q 0");
        error(SYNTAX, HEAD + "repeat 1 (repeat 1 (fill ^repeat 1 (fill)))");
        error(SYNTAX, TWO + "pancake 0 a b c ^abcdefghi");
        error(RANGE, TWO + "taster ^unknown 0 0 0 0 0");
        error(RANGE, TWO + "pancake 0 a b c ^friends");
        error(RANGE, TWO + "copy a ^friends");
        error(RANGE, TWO + "swap 1 ^2");
        error(RANGE, TWO + "seat friend ^2");
        error(RANGE, TWO + "leave a ^2");
        error(RANGE, TWO + "score a ^2 0");
        error(RANGE, TWO + "talk ^2");
        error(RANGE, TWO + "even ^2");
        error(NAME, TWO + "pancake 0 a b c ^a");
        error(NAME, TWO + "pancake 0 a b c ^x");
    }

    private static void firstToken() {
        error(RANGE, "panel ^901 11 ?");
        error(RANGE, "panel 0 ^11 ?");
        error(NAME, TWO + "bid ^c 2 4");
        error(RANGE, TWO + "bid a ^2 4");
        error(RANGE, TWO + "bid a 0 ^4 ?");
        error(NAME, TWO + "person ^a 10");
        error(LIMIT, TWO + "score a ^0 10");
        error(LIMIT, TWO + "seat friend ^0 ?");
        error(NAME, TWO + "together ^x x");
        error(NAME, TWO + "copy ^c c");
        error(RANGE, TWO + "swap ^2 2");
        error(RANGE, HEAD + "repeat ^0 fill");
        error(NAME, TWO + "fill;fill;person ^a 1;abcdefghi 1234");
    }
}
