import java.util.Arrays;

/**
 * A panel of tasters who judge pancakes without knowing whose they are.
 *
 * <p>Every row is made once, in the constructors, and used again by each call: a state is kept (for
 * undoing, saving and predicting) by copying rows, so that no call leaves new objects behind.
 */
public final class PancakePanel {
    public static final int NONE = -1;
    public static final int SYNTAX_ERROR = 1;
    public static final int RANGE_ERROR = 2;
    public static final int NAME_ERROR = 3;
    public static final int LIMIT_ERROR = 4;

    private static final int MAX_PERSONS = 16;
    private static final int MAX_PANCAKES = 10;
    private static final int MAX_SEATS = 3;
    private static final int MAX_COOKS = 3;
    private static final int TOPICS = 4;
    private static final int MAX_NAME_LETTERS = 6;
    private static final int MAX_WORD_LETTERS = 8;
    private static final int MAX_DIGITS = 3;
    private static final int MAX_NESTED_REPEATS = 2;
    private static final int MAX_THRESHOLD = 900;
    private static final int MAX_PLACES = 10;
    private static final int MAX_KITCHEN = 9;
    private static final int MAX_LIMIT = 6;
    private static final int MAX_TASTE = 9;
    private static final int MAX_BID = 3;
    private static final int MAX_SCORE = 9;
    private static final int MAX_COUNT = 9;

    private static final int INPUT_SIZE = 500;
    private static final int APPENDED_SIZE = 20;
    private static final int OUTPUT_SIZE = 64;
    private static final int MAX_UNDO = 8;
    private static final int SLOTS = 2;
    // Far above the 40 steps that a filling and the some 20000 that a setup can need.
    private static final int STEP_BOUND = 1000000;

    private static final int IS_COOK = 1;
    private static final int SAME_KITCHEN = 2;
    private static final int COOKED_TOGETHER = 3;
    private static final int DECLARED = 4;

    private static final int NO_TASTER = 1;
    private static final int TASTES_ALREADY = 2;
    private static final int HAS_CONFLICT = 3;
    private static final int NO_FREE_SEAT = 4;
    private static final int LIMIT_REACHED = 5;

    private static final int END = 0;
    private static final int WORD = 1;
    private static final int NUMBER = 2;
    private static final int SEMICOLON = 3;
    private static final int OPEN = 4;
    private static final int CLOSE = 5;
    private static final int MALFORMED = 6;

    private static final Keyword[] KEYWORDS = Keyword.values();

    private final ByteRow input;
    private final ByteRow output;
    private final SetupParser parser;
    private final Panel panel;
    private final Panel trial;
    private final History history;
    private final Panel[] slots;

    public PancakePanel() {
        input = new ByteRow(INPUT_SIZE);
        output = new ByteRow(OUTPUT_SIZE);
        parser = new SetupParser();
        panel = new Panel();
        trial = new Panel();
        history = new History();
        slots = new Panel[SLOTS];
        for (int slot = 0; slot < slots.length; slot++) {
            slots[slot] = new Panel();
        }
    }

    // ---- input buffer and setup

    public int append(int a, int b, int c, int d, int e) {
        if (input.size + APPENDED_SIZE > INPUT_SIZE) {
            return NONE;
        }
        input.addFourBytes(a);
        input.addFourBytes(b);
        input.addFourBytes(c);
        input.addFourBytes(d);
        input.addFourBytes(e);
        return input.size;
    }

    public int parseSetup(int length) throws IndexOutOfBoundsException, IllegalArgumentException {
        if (length < 0 || length > input.size) {
            throw new IndexOutOfBoundsException("length is not within the buffer");
        }
        boolean isValid = parser.parse(input, length);
        input.empty();
        if (!isValid) {
            throw new IllegalArgumentException("the setup is invalid");
        }
        panel.copyFrom(parser.panel);
        panel.isLoaded = true;
        history.forget();
        for (int slot = 0; slot < slots.length; slot++) {
            slots[slot].isLoaded = false;
        }
        return panel.pancakes;
    }

    public int parseErrorCode() {
        return parser.errorCode;
    }

    public int parseErrorPosition() {
        return parser.errorPosition;
    }

    public int bufferLength() {
        return input.size;
    }

    // ---- pancakes and persons

    public int pancakeCount() throws IllegalStateException {
        requirePanel();
        return panel.pancakes;
    }

    public int topicOf(int pancake) throws IllegalStateException, IndexOutOfBoundsException {
        requirePancake(pancake);
        return cell(panel.topics, pancake);
    }

    public int cookCount(int pancake) throws IllegalStateException, IndexOutOfBoundsException {
        requirePancake(pancake);
        return panel.cooks.size(pancake);
    }

    public int cookAt(int pancake, int index) throws IllegalStateException, IndexOutOfBoundsException {
        requirePancake(pancake);
        if (index < 0 || index >= panel.cooks.size(pancake)) {
            throw new IndexOutOfBoundsException("no such cook");
        }
        return panel.cooks.member(pancake, index);
    }

    public int personCount() throws IllegalStateException {
        requirePanel();
        return panel.persons;
    }

    public int nameLetter(int person, int index) throws IllegalStateException, IndexOutOfBoundsException {
        requirePerson(person);
        long name = panel.name(person);
        int letters = letterCount(name);
        return index < 0 || index >= letters ? NONE : letterOf(name, letters, index);
    }

    public int kitchenOf(int person) throws IllegalStateException, IndexOutOfBoundsException {
        requirePerson(person);
        return cell(panel.kitchens, person);
    }

    public boolean isTaster(int person) throws IllegalStateException, IndexOutOfBoundsException {
        requirePerson(person);
        return panel.isOneOfTasters(person);
    }

    public int limitOf(int person) throws IllegalStateException, IndexOutOfBoundsException {
        requirePerson(person);
        return cell(panel.limits, person);
    }

    public int tasteOf(int person, int topic) throws IllegalStateException, IndexOutOfBoundsException {
        requirePerson(person);
        if (topic < 0 || topic >= TOPICS) {
            throw new IndexOutOfBoundsException("no such topic");
        }
        return panel.tastes.get(person, topic);
    }

    // ---- bids and conflicts

    public int bidOf(int person, int pancake) throws IllegalStateException, IndexOutOfBoundsException {
        requirePair(person, pancake);
        return panel.bids.get(person, pancake);
    }

    public int preference(int person, int pancake) throws IllegalStateException, IndexOutOfBoundsException {
        requirePair(person, pancake);
        return panel.liking(person, pancake);
    }

    public int conflict(int person, int pancake) throws IllegalStateException, IndexOutOfBoundsException {
        requirePair(person, pancake);
        return panel.conflictReason(person, pancake);
    }

    public int conflictCount(int pancake) throws IllegalStateException, IndexOutOfBoundsException {
        requirePancake(pancake);
        return panel.tastersInConflict(pancake);
    }

    public int favoriteOf(int person) throws IllegalStateException, IndexOutOfBoundsException {
        requirePerson(person);
        return panel.mostLiked(person);
    }

    // ---- seats

    public int seatCount(int pancake) throws IllegalStateException, IndexOutOfBoundsException {
        requirePancake(pancake);
        return panel.seats.size(pancake);
    }

    public int seatAt(int pancake, int index) throws IllegalStateException, IndexOutOfBoundsException {
        requirePancake(pancake);
        if (index < 0 || index >= panel.seats.size(pancake)) {
            throw new IndexOutOfBoundsException("no such taster");
        }
        return panel.seats.member(pancake, index);
    }

    public int loadOf(int person) throws IllegalStateException, IndexOutOfBoundsException {
        requirePerson(person);
        return panel.load(person);
    }

    public int refusal(int person, int pancake) throws IllegalStateException, IndexOutOfBoundsException {
        requirePair(person, pancake);
        return panel.refusalReason(person, pancake, 0);
    }

    public int bestTaster(int pancake) throws IllegalStateException, IndexOutOfBoundsException {
        requirePancake(pancake);
        return panel.bestFor(pancake);
    }

    public int lacking() throws IllegalStateException {
        requirePanel();
        return panel.freeSeats();
    }

    public int lackingAfterFilling() throws IllegalStateException {
        requirePanel();
        trial.copyFrom(panel);
        trial.fillSeats();
        return trial.freeSeats();
    }

    // ---- scores

    public int scoreOf(int person, int pancake) throws IllegalStateException, IndexOutOfBoundsException {
        requirePair(person, pancake);
        return panel.scores.given(person, pancake);
    }

    public int scoreCount(int pancake) throws IllegalStateException, IndexOutOfBoundsException {
        requirePancake(pancake);
        return panel.scores.countFor(pancake);
    }

    public int meanOf(int person) throws IllegalStateException, IndexOutOfBoundsException {
        requirePerson(person);
        return panel.scores.mean(person);
    }

    public int harshest() throws IllegalStateException {
        requirePanel();
        return panel.scores.personWithLeastMean();
    }

    public int disagreement(int person) throws IllegalStateException, IndexOutOfBoundsException {
        requirePerson(person);
        return panel.scores.distanceFromTotals(person);
    }

    public int adjustedScore(int person, int pancake) throws IllegalStateException, IndexOutOfBoundsException {
        requirePair(person, pancake);
        if (panel.scores.given(person, pancake) == 0) {
            return NONE;
        }
        return panel.scores.adjusted(person, pancake);
    }

    public int totalOf(int pancake) throws IllegalStateException, IndexOutOfBoundsException {
        requirePancake(pancake);
        return panel.scores.total(pancake);
    }

    public int spreadOf(int pancake) throws IllegalStateException, IndexOutOfBoundsException {
        requirePancake(pancake);
        return panel.scores.spread(pancake);
    }

    public boolean needsTalk(int pancake) throws IllegalStateException, IndexOutOfBoundsException {
        requirePancake(pancake);
        return panel.isDisputed(pancake);
    }

    public int spreadAfterTalk(int pancake) throws IllegalStateException, IndexOutOfBoundsException {
        requirePancake(pancake);
        trial.copyFrom(panel);
        if (trial.scores.canBeTalkedOver(pancake)) {
            trial.scores.holdTalk(pancake);
        }
        return trial.scores.spread(pancake);
    }

    // ---- ranks

    public int rankOf(int pancake) throws IllegalStateException, IndexOutOfBoundsException {
        requirePancake(pancake);
        return panel.scores.rank(pancake);
    }

    public int pancakeAt(int rank) throws IllegalStateException, IndexOutOfBoundsException {
        requirePanel();
        if (rank < 0 || rank >= panel.pancakes) {
            throw new IndexOutOfBoundsException("no such rank");
        }
        return panel.scores.pancakeWithRank(rank);
    }

    public boolean isAccepted(int pancake) throws IllegalStateException, IndexOutOfBoundsException {
        requirePancake(pancake);
        return panel.scores.rank(pancake) < panel.places
            && panel.scores.countFor(pancake) > 0
            && !panel.isDisputed(pancake);
    }

    // ---- counts and measures

    public int fillCount() throws IllegalStateException {
        requirePanel();
        return panel.filledSeats;
    }

    public int moveCount() throws IllegalStateException {
        requirePanel();
        return panel.moves;
    }

    public int talkCount() throws IllegalStateException {
        requirePanel();
        return panel.scores.talks;
    }

    public int changeCount() throws IllegalStateException {
        requirePanel();
        return panel.scores.changedScores;
    }

    public double averageScore() throws IllegalStateException {
        requirePanel();
        int count = panel.scores.countOfAll;
        return count == 0 ? 0.0 : (double) panel.scores.sumOfAll / (double) count;
    }

    public float seatShare() throws IllegalStateException {
        requirePanel();
        int seats = MAX_SEATS * panel.pancakes;
        return seats == 0 ? 0.0f : (float) panel.takenSeats() / (float) seats;
    }

    public int imbalance() throws IllegalStateException {
        requirePanel();
        return panel.seatsInConflict() + panel.overloadedTasters() + panel.scoresWithoutSeat()
            + Math.abs(panel.loadSum() - panel.takenSeats());
    }

    // ---- text output

    public int writePancake(int pancake) throws IllegalStateException, IndexOutOfBoundsException {
        requirePancake(pancake);
        output.empty();
        int tasters = panel.seats.size(pancake);
        if (tasters == 0) {
            output.add('-');
        }
        for (int seat = 0; seat < tasters; seat++) {
            if (seat > 0) {
                output.add(',');
            }
            writeTaster(panel.seats.member(pancake, seat), pancake);
        }
        output.add('/');
        output.addNumber(panel.scores.total(pancake));
        return output.size;
    }

    public int writeBids(int person) throws IllegalStateException, IndexOutOfBoundsException {
        requirePerson(person);
        output.empty();
        for (int pancake = 0; pancake < panel.pancakes; pancake++) {
            output.addNumber(panel.bids.get(person, pancake));
            if (panel.seats.contains(pancake, person)) {
                output.add('*');
            } else if (panel.conflictReason(person, pancake) != 0) {
                output.add('!');
            }
        }
        return output.size;
    }

    public int outputByte(int index) throws IndexOutOfBoundsException {
        if (index < 0 || index >= output.size) {
            throw new IndexOutOfBoundsException("no such byte");
        }
        return output.get(index);
    }

    // ---- changes; each one can be undone

    public int bid(int person, int pancake, int bid)
            throws IllegalStateException, IndexOutOfBoundsException, IllegalArgumentException {
        requirePair(person, pancake);
        if (!panel.isOneOfTasters(person) || bid < 0 || bid > MAX_BID) {
            throw new IllegalArgumentException("no taster, or no such bid");
        }
        history.remember(panel);
        int previous = panel.bids.get(person, pancake);
        panel.bids.set(person, pancake, bid);
        return previous;
    }

    public int assign(int person, int pancake)
            throws IllegalStateException, IndexOutOfBoundsException, IllegalArgumentException {
        requirePair(person, pancake);
        if (panel.refusalReason(person, pancake, 0) != 0) {
            throw new IllegalArgumentException("the person can not taste the pancake");
        }
        history.remember(panel);
        panel.seats.add(pancake, person);
        return panel.seats.size(pancake);
    }

    public int unassign(int person, int pancake)
            throws IllegalStateException, IndexOutOfBoundsException, IllegalArgumentException {
        requirePair(person, pancake);
        requireSeat(person, pancake);
        history.remember(panel);
        panel.takeSeat(person, pancake);
        return panel.seats.size(pancake);
    }

    public int fill() throws IllegalStateException {
        requirePanel();
        history.remember(panel);
        return panel.fillSeats();
    }

    public int score(int person, int pancake, int score)
            throws IllegalStateException, IndexOutOfBoundsException, IllegalArgumentException {
        requirePair(person, pancake);
        requireSeat(person, pancake);
        if (score < 1 || score > MAX_SCORE) {
            throw new IllegalArgumentException("no such score");
        }
        history.remember(panel);
        int previous = panel.scores.given(person, pancake);
        panel.scores.put(person, pancake, score);
        return previous;
    }

    public int talk(int pancake)
            throws IllegalStateException, IndexOutOfBoundsException, IllegalArgumentException {
        requirePancake(pancake);
        if (!panel.scores.canBeTalkedOver(pancake)) {
            throw new IllegalArgumentException("the pancake has less than 2 scores");
        }
        history.remember(panel);
        return panel.scores.holdTalk(pancake);
    }

    public boolean declare(int person, int pancake, boolean isConflict)
            throws IllegalStateException, IndexOutOfBoundsException {
        requirePair(person, pancake);
        history.remember(panel);
        boolean wasDeclared = panel.declared.get(person, pancake) != 0;
        panel.declared.set(person, pancake, isConflict ? 1 : 0);
        return wasDeclared;
    }

    public int undo() throws IllegalStateException {
        if (history.size == 0) {
            throw new IllegalStateException("there is nothing to undo");
        }
        history.bringBack(panel);
        return history.size;
    }

    public int undoCount() {
        return history.size;
    }

    public int saveState(int slot) throws IllegalStateException, IndexOutOfBoundsException {
        requirePanel();
        if (slot < 0 || slot >= slots.length) {
            throw new IndexOutOfBoundsException("no such slot");
        }
        slots[slot].copyFrom(panel);
        return panel.scores.countOfAll;
    }

    public int restoreState(int slot) throws IndexOutOfBoundsException, IllegalStateException {
        if (slot < 0 || slot >= slots.length) {
            throw new IndexOutOfBoundsException("no such slot");
        }
        if (!slots[slot].isLoaded) {
            throw new IllegalStateException("no state is saved in the slot");
        }
        panel.copyFrom(slots[slot]);
        history.forget();
        return panel.scores.countOfAll;
    }

    private void requirePanel() {
        if (!panel.isLoaded) {
            throw new IllegalStateException("no setup has been loaded");
        }
    }

    private void requirePerson(int person) {
        requirePanel();
        if (person < 0 || person >= panel.persons) {
            throw new IndexOutOfBoundsException("no such person");
        }
    }

    private void requirePancake(int pancake) {
        requirePanel();
        if (pancake < 0 || pancake >= panel.pancakes) {
            throw new IndexOutOfBoundsException("no such pancake");
        }
    }

    private void requirePair(int person, int pancake) {
        requirePerson(person);
        requirePancake(pancake);
    }

    private void requireSeat(int person, int pancake) {
        if (!panel.seats.contains(pancake, person)) {
            throw new IllegalArgumentException("the person does not taste the pancake");
        }
    }

    private void writeTaster(int person, int pancake) {
        output.addWord(panel.name(person));
        output.add('=');
        int score = panel.scores.given(person, pancake);
        if (score == 0) {
            output.add('?');
        } else {
            output.addNumber(score);
        }
    }

    private static int cell(int[] row, int index) {
        return index >= 0 && index < row.length ? row[index] : 0;
    }

    private static void setCell(int[] row, int index, int value) {
        if (index >= 0 && index < row.length) {
            row[index] = value;
        }
    }

    private static void copyRow(int[] from, int[] to) {
        System.arraycopy(from, 0, to, 0, Math.min(from.length, to.length));
    }

    // A word is kept as a long, a byte for each of its at most 8 letters, so that == compares words.
    private static int letterCount(long word) {
        int letters = 0;
        while (letters < MAX_WORD_LETTERS && word >>> 8 * letters != 0) {
            letters++;
        }
        return letters;
    }

    private static int letterOf(long word, int letters, int index) {
        return (int) (word >>> 8 * (letters - 1 - index)) & 255;
    }

    /** The words that the grammar knows; OTHER stands for all other tokens. */
    private enum Keyword {
        PANEL("panel"), PERSON("person"), TASTER("taster"), PANCAKE("pancake"), BID("bid"),
        TOGETHER("together"), CONFLICT("conflict"), SEAT("seat"), FILL("fill"), LEAVE("leave"),
        SCORE("score"), TALK("talk"), LIMIT("limit"), KITCHEN("kitchen"), SWAP("swap"),
        CLEAR("clear"), EVEN("even"), COPY("copy"), REPEAT("repeat"), OTHER("");

        final long word;

        Keyword(String text) {
            long letters = 0;
            for (int i = 0; i < text.length(); i++) {
                letters = letters << 8 | text.charAt(i);
            }
            word = letters;
        }
    }

    /** A row of bytes that grows up to its capacity. */
    private static final class ByteRow {
        private final int[] cells;
        int size;

        ByteRow(int capacity) {
            cells = new int[Math.max(0, capacity)];
        }

        void empty() {
            size = 0;
        }

        int get(int index) {
            return cell(cells, index);
        }

        void add(int value) {
            if (size < cells.length) {
                setCell(cells, size, value);
                size++;
            }
        }

        void addFourBytes(int value) {
            for (int shift = 24; shift >= 0; shift -= 8) {
                add(value >>> shift & 255);
            }
        }

        void addWord(long word) {
            int letters = letterCount(word);
            for (int i = 0; i < letters; i++) {
                add(letterOf(word, letters, i));
            }
        }

        void addNumber(int value) {
            if (value < 0) {
                add('-');
            }
            int digits = Math.abs(value);
            boolean hasStarted = false;
            for (int divisor = 1000000000; divisor > 0; divisor /= 10) {
                int digit = digits / divisor % 10;
                hasStarted = hasStarted || digit != 0 || divisor == 1;
                if (hasStarted) {
                    add('0' + digit);
                }
            }
        }
    }

    /** A table of numbers, 0 at first; what lies outside is read as 0 and never written. */
    private static final class Table {
        private final int rows;
        private final int columns;
        private final int[] cells;

        Table(int rows, int columns) {
            this.rows = Math.max(0, rows);
            this.columns = Math.max(0, columns);
            cells = new int[this.rows * this.columns];
        }

        int get(int row, int column) {
            return row >= 0 && row < rows && column >= 0 && column < columns
                ? cells[row * columns + column] : 0;
        }

        void set(int row, int column, int value) {
            if (row >= 0 && row < rows && column >= 0 && column < columns) {
                cells[row * columns + column] = value;
            }
        }

        void clear() {
            Arrays.fill(cells, 0);
        }

        void copyFrom(Table other) {
            copyRow(other.cells, cells);
        }
    }

    /** For each pancake a list of at most 3 different persons in the order in which they came. */
    private static final class PersonLists {
        private static final int CAPACITY = 3;

        private final int[] sizes = new int[MAX_PANCAKES];
        private final int[] members = new int[MAX_PANCAKES * CAPACITY];

        // size, member and contains call nothing: the search for a move in a setup is eight calls deep here.
        int size(int pancake) {
            return pancake >= 0 && pancake < sizes.length ? sizes[pancake] : 0;
        }

        int member(int pancake, int index) {
            int place = pancake * CAPACITY + index;
            return place >= 0 && place < members.length ? members[place] : NONE;
        }

        boolean contains(int pancake, int person) {
            if (pancake < 0 || pancake >= sizes.length) {
                return false;
            }
            int first = pancake * CAPACITY;
            int end = first + sizes[pancake];
            for (int place = first; place < end && place < members.length; place++) {
                if (members[place] == person) {
                    return true;
                }
            }
            return false;
        }

        void add(int pancake, int person) {
            int size = cell(sizes, pancake);
            if (size < CAPACITY) {
                setCell(members, pancake * CAPACITY + size, person);
                setCell(sizes, pancake, size + 1);
            }
        }

        void remove(int pancake, int person) {
            int size = cell(sizes, pancake);
            int kept = 0;
            for (int i = 0; i < size; i++) {
                int member = member(pancake, i);
                if (member != person) {
                    setCell(members, pancake * CAPACITY + kept, member);
                    kept++;
                }
            }
            setCell(sizes, pancake, kept);
        }

        void clear() {
            Arrays.fill(sizes, 0);
        }

        void copyFrom(PersonLists other) {
            copyRow(other.sizes, sizes);
            copyRow(other.members, members);
        }
    }

    /** The scores, 0 where none is given, and what is computed from them. */
    private static final class ScoreSheet {
        private final Table table = new Table(MAX_PERSONS, MAX_PANCAKES);
        int countOfAll;
        int sumOfAll;
        int talks;
        int changedScores;

        void clear() {
            table.clear();
            countOfAll = 0;
            sumOfAll = 0;
            talks = 0;
            changedScores = 0;
        }

        void copyFrom(ScoreSheet other) {
            table.copyFrom(other.table);
            countOfAll = other.countOfAll;
            sumOfAll = other.sumOfAll;
            talks = other.talks;
            changedScores = other.changedScores;
        }

        int given(int person, int pancake) {
            return table.get(person, pancake);
        }

        /** Sets a score; a score of 0 takes it away. */
        void put(int person, int pancake, int score) {
            int previous = table.get(person, pancake);
            table.set(person, pancake, score);
            int current = table.get(person, pancake);
            sumOfAll += current - previous;
            if (previous > 0) {
                countOfAll--;
            }
            if (current > 0) {
                countOfAll++;
            }
        }

        int countFor(int pancake) {
            int count = 0;
            for (int person = 0; person < MAX_PERSONS; person++) {
                if (table.get(person, pancake) > 0) {
                    count++;
                }
            }
            return count;
        }

        int mean(int person) {
            int sum = 0;
            int count = 0;
            for (int pancake = 0; pancake < MAX_PANCAKES; pancake++) {
                int score = table.get(person, pancake);
                if (score > 0) {
                    sum += score;
                    count++;
                }
            }
            return count == 0 ? NONE : 100 * sum / count;
        }

        private int meanOfAll() {
            return countOfAll == 0 ? 0 : 100 * sumOfAll / countOfAll;
        }

        int personWithLeastMean() {
            int found = NONE;
            int least = 0;
            for (int person = 0; person < MAX_PERSONS; person++) {
                int mean = mean(person);
                if (mean != NONE && (found == NONE || mean < least)) {
                    found = person;
                    least = mean;
                }
            }
            return found;
        }

        int adjusted(int person, int pancake) {
            return 100 * table.get(person, pancake) - mean(person) + meanOfAll();
        }

        int total(int pancake) {
            int sum = 0;
            int count = 0;
            for (int person = 0; person < MAX_PERSONS; person++) {
                if (table.get(person, pancake) > 0) {
                    sum += adjusted(person, pancake);
                    count++;
                }
            }
            return count == 0 ? 0 : sum / count;
        }

        int spread(int pancake) {
            int count = 0;
            int least = 0;
            int greatest = 0;
            for (int person = 0; person < MAX_PERSONS; person++) {
                if (table.get(person, pancake) > 0) {
                    int adjusted = adjusted(person, pancake);
                    least = count == 0 ? adjusted : Math.min(least, adjusted);
                    greatest = count == 0 ? adjusted : Math.max(greatest, adjusted);
                    count++;
                }
            }
            return greatest - least;
        }

        int distanceFromTotals(int person) {
            int distance = 0;
            for (int pancake = 0; pancake < MAX_PANCAKES; pancake++) {
                if (table.get(person, pancake) > 0) {
                    distance += Math.abs(adjusted(person, pancake) - total(pancake));
                }
            }
            return distance;
        }

        int rank(int pancake) {
            int rank = 0;
            for (int other = 0; other < MAX_PANCAKES; other++) {
                if (other != pancake && comesBefore(other, pancake)) {
                    rank++;
                }
            }
            return rank;
        }

        int pancakeWithRank(int rank) {
            for (int pancake = 0; pancake < MAX_PANCAKES; pancake++) {
                if (rank(pancake) == rank) {
                    return pancake;
                }
            }
            return NONE;
        }

        // A pancake that does not exist has no scores and a greater number, so it comes last.
        private boolean comesBefore(int one, int other) {
            boolean oneHasScores = countFor(one) > 0;
            boolean otherHasScores = countFor(other) > 0;
            if (oneHasScores != otherHasScores) {
                return oneHasScores;
            }
            int difference = total(one) - total(other);
            return difference > 0 || difference == 0 && one < other;
        }

        boolean canBeTalkedOver(int pancake) {
            return countFor(pancake) >= 2;
        }

        private int middle(int pancake) {
            int count = 0;
            int sum = 0;
            int least = MAX_SCORE;
            int greatest = 0;
            for (int person = 0; person < MAX_PERSONS; person++) {
                int score = table.get(person, pancake);
                if (score > 0) {
                    count++;
                    sum += score;
                    least = Math.min(least, score);
                    greatest = Math.max(greatest, score);
                }
            }
            return count < MAX_SEATS ? least : sum - least - greatest;
        }

        int holdTalk(int pancake) {
            int middle = middle(pancake);
            int changed = 0;
            for (int person = 0; person < MAX_PERSONS; person++) {
                int score = table.get(person, pancake);
                if (score > 0 && Math.abs(score - middle) > 1) {
                    put(person, pancake, score > middle ? score - 1 : score + 1);
                    changed++;
                }
            }
            talks++;
            changedScores += changed;
            return changed;
        }

        void makeEven(int pancake) {
            int middle = middle(pancake);
            for (int person = 0; person < MAX_PERSONS; person++) {
                if (table.get(person, pancake) > 0) {
                    put(person, pancake, middle);
                }
            }
        }
    }

    /** The state of a panel: all that a setup makes and that the changes change. */
    private static final class Panel {
        boolean isLoaded;
        int threshold;
        int places;
        int persons;
        int pancakes;
        int filledSeats;
        int moves;
        final long[] names = new long[MAX_PERSONS];
        final int[] kitchens = new int[MAX_PERSONS];
        // A limit of 0 tells that the person is not a taster.
        final int[] limits = new int[MAX_PERSONS];
        final int[] topics = new int[MAX_PANCAKES];
        final Table tastes = new Table(MAX_PERSONS, TOPICS);
        final Table together = new Table(MAX_PERSONS, MAX_PERSONS);
        final Table bids = new Table(MAX_PERSONS, MAX_PANCAKES);
        final Table declared = new Table(MAX_PERSONS, MAX_PANCAKES);
        final PersonLists cooks = new PersonLists();
        final PersonLists seats = new PersonLists();
        final ScoreSheet scores = new ScoreSheet();

        void clear() {
            isLoaded = false;
            threshold = 0;
            places = 0;
            persons = 0;
            pancakes = 0;
            filledSeats = 0;
            moves = 0;
            Arrays.fill(names, 0L);
            Arrays.fill(kitchens, 0);
            Arrays.fill(limits, 0);
            Arrays.fill(topics, 0);
            tastes.clear();
            together.clear();
            bids.clear();
            declared.clear();
            cooks.clear();
            seats.clear();
            scores.clear();
        }

        void copyFrom(Panel other) {
            isLoaded = other.isLoaded;
            threshold = other.threshold;
            places = other.places;
            persons = other.persons;
            pancakes = other.pancakes;
            filledSeats = other.filledSeats;
            moves = other.moves;
            System.arraycopy(other.names, 0, names, 0, Math.min(other.names.length, names.length));
            copyRow(other.kitchens, kitchens);
            copyRow(other.limits, limits);
            copyRow(other.topics, topics);
            tastes.copyFrom(other.tastes);
            together.copyFrom(other.together);
            bids.copyFrom(other.bids);
            declared.copyFrom(other.declared);
            cooks.copyFrom(other.cooks);
            seats.copyFrom(other.seats);
            scores.copyFrom(other.scores);
        }

        // -- persons and pancakes

        long name(int person) {
            return person >= 0 && person < names.length ? names[person] : 0;
        }

        int personNamed(long name) {
            for (int person = 0; person < persons; person++) {
                if (name(person) == name) {
                    return person;
                }
            }
            return NONE;
        }

        void addPerson(long name, int kitchen) {
            if (persons >= 0 && persons < names.length) {
                names[persons] = name;
                setCell(kitchens, persons, kitchen);
                persons++;
            }
        }

        boolean isOneOfTasters(int person) {
            return cell(limits, person) > 0;
        }

        void addPancake(int topic) {
            if (pancakes < MAX_PANCAKES) {
                setCell(topics, pancakes, topic);
                pancakes++;
            }
        }

        void swapTopics(int one, int other) {
            int topic = cell(topics, one);
            setCell(topics, one, cell(topics, other));
            setCell(topics, other, topic);
        }

        void joinCooks(int one, int other) {
            together.set(one, other, 1);
            together.set(other, one, 1);
        }

        // -- bids and conflicts

        void copyBids(int from, int to) {
            for (int pancake = 0; pancake < pancakes; pancake++) {
                bids.set(to, pancake, bids.get(from, pancake));
            }
        }

        int liking(int person, int pancake) {
            return 10 * bids.get(person, pancake) + tastes.get(person, cell(topics, pancake));
        }

        int mostLiked(int person) {
            int found = NONE;
            int most = 0;
            for (int pancake = 0; pancake < pancakes; pancake++) {
                int liking = liking(person, pancake);
                if ((found == NONE || liking > most) && conflictReason(person, pancake) == 0) {
                    found = pancake;
                    most = liking;
                }
            }
            return found;
        }

        int conflictReason(int person, int pancake) {
            if (cooks.contains(pancake, person)) {
                return IS_COOK;
            }
            int count = cooks.size(pancake);
            int kitchen = cell(kitchens, person);
            boolean hasPartner = false;
            for (int i = 0; i < count; i++) {
                int cook = cooks.member(pancake, i);
                if (cell(kitchens, cook) == kitchen) {
                    return SAME_KITCHEN;
                }
                hasPartner = hasPartner || together.get(person, cook) != 0;
            }
            if (hasPartner) {
                return COOKED_TOGETHER;
            }
            return declared.get(person, pancake) != 0 ? DECLARED : 0;
        }

        int tastersInConflict(int pancake) {
            int count = 0;
            for (int person = 0; person < persons; person++) {
                if (isOneOfTasters(person) && conflictReason(person, pancake) != 0) {
                    count++;
                }
            }
            return count;
        }

        // -- seats

        int load(int person) {
            int load = 0;
            for (int pancake = 0; pancake < pancakes; pancake++) {
                if (seats.contains(pancake, person)) {
                    load++;
                }
            }
            return load;
        }

        // "leaving" tells how many other tasters are thought to have left the pancake before.
        int refusalReason(int person, int pancake, int leaving) {
            if (!isOneOfTasters(person)) {
                return NO_TASTER;
            }
            if (seats.contains(pancake, person)) {
                return TASTES_ALREADY;
            }
            if (conflictReason(person, pancake) != 0) {
                return HAS_CONFLICT;
            }
            if (seats.size(pancake) - leaving >= MAX_SEATS) {
                return NO_FREE_SEAT;
            }
            return load(person) >= cell(limits, person) ? LIMIT_REACHED : 0;
        }

        int bestFor(int pancake) {
            int best = NONE;
            for (int person = 0; person < persons; person++) {
                if (refusalReason(person, pancake, 0) == 0
                        && (best == NONE || isBetter(person, best, pancake))) {
                    best = person;
                }
            }
            return best;
        }

        private boolean isBetter(int person, int best, int pancake) {
            int difference = liking(person, pancake) - liking(best, pancake);
            return difference > 0 || difference == 0 && load(person) < load(best);
        }

        void takeSeat(int person, int pancake) {
            seats.remove(pancake, person);
            scores.put(person, pancake, 0);
        }

        void clearSeats(int pancake) {
            for (int person = 0; person < persons; person++) {
                takeSeat(person, pancake);
            }
        }

        int takenSeats() {
            int taken = 0;
            for (int pancake = 0; pancake < pancakes; pancake++) {
                taken += seats.size(pancake);
            }
            return taken;
        }

        int freeSeats() {
            return MAX_SEATS * pancakes - takenSeats();
        }

        // -- filling

        int fillSeats() {
            int given = 0;
            int givenUp = 0;
            for (int step = 0; step < STEP_BOUND; step++) {
                int pancake = neediest(givenUp);
                if (pancake == NONE) {
                    break;
                }
                int taster = bestFor(pancake);
                if (taster != NONE) {
                    seats.add(pancake, taster);
                    given++;
                } else if (makeMove(pancake)) {
                    given += 2;
                } else {
                    givenUp |= 1 << pancake;
                }
            }
            filledSeats += given;
            return given;
        }

        private int neediest(int givenUp) {
            int found = NONE;
            int fewest = MAX_SEATS;
            for (int pancake = 0; pancake < pancakes; pancake++) {
                boolean isGivenUp = (givenUp >>> pancake & 1) != 0;
                if (!isGivenUp && seats.size(pancake) < fewest) {
                    found = pancake;
                    fewest = seats.size(pancake);
                }
            }
            return found;
        }

        // One method with three loops: in a setup it stands five calls deep, and eight are allowed.
        private boolean makeMove(int pancake) {
            for (int mover = 0; mover < persons; mover++) {
                if (refusalReason(mover, pancake, 0) != LIMIT_REACHED) {
                    continue;
                }
                for (int left = 0; left < pancakes; left++) {
                    if (!seats.contains(left, mover) || scores.given(mover, left) > 0) {
                        continue;
                    }
                    for (int heir = 0; heir < persons; heir++) {
                        if (heir != mover && refusalReason(heir, left, 1) == 0) {
                            seats.remove(left, mover);
                            seats.add(left, heir);
                            seats.add(pancake, mover);
                            moves++;
                            return true;
                        }
                    }
                }
            }
            return false;
        }

        // -- measures

        boolean isDisputed(int pancake) {
            return scores.spread(pancake) > threshold;
        }

        int loadSum() {
            int sum = 0;
            for (int person = 0; person < persons; person++) {
                sum += load(person);
            }
            return sum;
        }

        int seatsInConflict() {
            int count = 0;
            for (int pancake = 0; pancake < pancakes; pancake++) {
                for (int seat = 0; seat < seats.size(pancake); seat++) {
                    if (conflictReason(seats.member(pancake, seat), pancake) != 0) {
                        count++;
                    }
                }
            }
            return count;
        }

        int overloadedTasters() {
            int count = 0;
            for (int person = 0; person < persons; person++) {
                if (load(person) > cell(limits, person)) {
                    count++;
                }
            }
            return count;
        }

        int scoresWithoutSeat() {
            int count = 0;
            for (int pancake = 0; pancake < pancakes; pancake++) {
                for (int person = 0; person < persons; person++) {
                    if (scores.given(person, pancake) > 0 && !seats.contains(pancake, person)) {
                        count++;
                    }
                }
            }
            return count;
        }
    }

    /** The states before the latest changes, in a ring: the oldest one gives its place to a new one. */
    private static final class History {
        private final Panel[] past;
        private int latest;
        int size;

        History() {
            past = new Panel[MAX_UNDO];
            for (int i = 0; i < past.length; i++) {
                past[i] = new Panel();
            }
        }

        void forget() {
            size = 0;
        }

        void remember(Panel panel) {
            latest = latest < past.length - 1 ? latest + 1 : 0;
            if (latest >= 0 && latest < past.length) {
                past[latest].copyFrom(panel);
                size = Math.min(size + 1, past.length);
            }
        }

        void bringBack(Panel panel) {
            if (size > 0 && latest >= 0 && latest < past.length) {
                panel.copyFrom(past[latest]);
                latest = latest > 0 ? latest - 1 : past.length - 1;
                size--;
            }
        }
    }

    /** The tokens of a setup in their order, closed by one of the kind END. */
    private static final class TokenRow {
        private final int[] kinds = new int[INPUT_SIZE + 1];
        private final int[] starts = new int[INPUT_SIZE + 1];
        private final long[] values = new long[INPUT_SIZE + 1];
        private int count;
        private int next;

        void split(ByteRow text, int length) {
            count = 0;
            next = 0;
            // Each step takes at least one byte.
            for (int step = 0; step < INPUT_SIZE && next < length; step++) {
                int sign = text.get(next);
                if (sign == ' ') {
                    next++;
                } else if (isLetter(sign)) {
                    addWordAt(text, length);
                } else if (isDigit(sign)) {
                    addNumberAt(text, length);
                } else {
                    add(kindOf(sign), next, 0);
                    next++;
                }
            }
            add(END, length, 0);
        }

        int kind(int index) {
            return index >= 0 && index < kinds.length ? kinds[index] : END;
        }

        int start(int index) {
            return index >= 0 && index < starts.length ? starts[index] : 0;
        }

        long value(int index) {
            return index >= 0 && index < values.length ? values[index] : 0;
        }

        private void add(int kind, int start, long value) {
            if (count >= 0 && count < values.length) {
                setCell(kinds, count, kind);
                setCell(starts, count, start);
                values[count] = value;
                count++;
            }
        }

        private void addWordAt(ByteRow text, int length) {
            int start = next;
            long word = 0;
            while (next < length && isLetter(text.get(next))) {
                word = word << 8 | text.get(next);
                next++;
            }
            add(next - start > MAX_WORD_LETTERS ? MALFORMED : WORD, start, word);
        }

        private void addNumberAt(ByteRow text, int length) {
            int start = next;
            long number = 0;
            while (next < length && isDigit(text.get(next))) {
                number = number * 10 + text.get(next) - '0';
                next++;
            }
            add(next - start > MAX_DIGITS ? MALFORMED : NUMBER, start, number);
        }

        private static boolean isLetter(int sign) {
            return sign >= 'a' && sign <= 'z';
        }

        private static boolean isDigit(int sign) {
            return sign >= '0' && sign <= '9';
        }

        private static int kindOf(int sign) {
            switch (sign) {
                case ';':
                    return SEMICOLON;
                case '(':
                    return OPEN;
                case ')':
                    return CLOSE;
                default:
                    return MALFORMED;
            }
        }
    }

    /**
     * Reads a setup into a panel of its own. After the first error nothing more is read; what the
     * panel holds then is thrown away.
     */
    private static final class SetupParser {
        final Panel panel = new Panel();
        int errorCode;
        int errorPosition = NONE;
        private final TokenRow tokens = new TokenRow();
        private final int[] bodies = new int[MAX_NESTED_REPEATS];
        private final int[] passes = new int[MAX_NESTED_REPEATS];
        private int depth;
        private int at;

        boolean parse(ByteRow text, int length) {
            panel.clear();
            tokens.split(text, length);
            errorCode = 0;
            errorPosition = NONE;
            depth = 0;
            at = 0;
            readHead();
            boolean isItemDue = false;
            for (int step = 0; step < STEP_BOUND && errorCode == 0; step++) {
                int kind = tokens.kind(at);
                if (isItemDue) {
                    isItemDue = readItem();
                } else if (kind == SEMICOLON) {
                    at++;
                    isItemDue = true;
                } else if (kind == CLOSE && depth > 0) {
                    isItemDue = endPass();
                } else if (kind == END && depth == 0) {
                    return true;
                } else {
                    fail(SYNTAX_ERROR, at);
                }
            }
            return false;
        }

        private void readHead() {
            if (keyword() != Keyword.PANEL) {
                fail(SYNTAX_ERROR, at);
            }
            at++;
            panel.threshold = number(0, MAX_THRESHOLD);
            panel.places = number(0, MAX_PLACES);
        }

        /** Reads an item, or a repeat up to its bracket; answers whether an item must follow. */
        private boolean readItem() {
            Keyword keyword = keyword();
            if (isOneTooMany(keyword)) {
                fail(LIMIT_ERROR, at);
                return false;
            }
            at++;
            switch (keyword) {
                case PERSON: readPerson(); break;
                case TASTER: readTaster(); break;
                case PANCAKE: readPancake(); break;
                case BID: readBid(); break;
                case TOGETHER: readTogether(); break;
                case CONFLICT: readConflict(); break;
                case SEAT: readSeat(); break;
                case FILL: panel.fillSeats(); break;
                case LEAVE: readLeave(); break;
                case SCORE: readScore(); break;
                case TALK: readTalk(); break;
                case LIMIT: readLimit(); break;
                case KITCHEN: readKitchen(); break;
                case SWAP: readSwap(); break;
                case CLEAR: readClear(); break;
                case EVEN: readEven(); break;
                case COPY: readCopy(); break;
                case REPEAT: return beginRepeat();
                default: fail(SYNTAX_ERROR, at - 1);
            }
            return false;
        }

        private Keyword keyword() {
            if (tokens.kind(at) == WORD) {
                for (int i = 0; i < KEYWORDS.length; i++) {
                    if (KEYWORDS[i].word == tokens.value(at)) {
                        return KEYWORDS[i];
                    }
                }
            }
            return Keyword.OTHER;
        }

        private boolean isOneTooMany(Keyword keyword) {
            return keyword == Keyword.PERSON && panel.persons >= MAX_PERSONS
                || keyword == Keyword.PANCAKE && panel.pancakes >= MAX_PANCAKES
                || keyword == Keyword.REPEAT && depth >= MAX_NESTED_REPEATS;
        }

        private void readPerson() {
            long name = tokens.value(at);
            checkName();
            if (panel.personNamed(name) != NONE) {
                fail(NAME_ERROR, at);
            }
            at++;
            int kitchen = number(0, MAX_KITCHEN);
            if (errorCode == 0) {
                panel.addPerson(name, kitchen);
            }
        }

        private void readTaster() {
            int person = person();
            if (panel.isOneOfTasters(person)) {
                fail(NAME_ERROR, at - 1);
            }
            int limit = number(1, MAX_LIMIT);
            for (int topic = 0; topic < TOPICS; topic++) {
                panel.tastes.set(person, topic, number(0, MAX_TASTE));
            }
            if (errorCode == 0) {
                setCell(panel.limits, person, limit);
            }
        }

        private void readPancake() {
            int pancake = panel.pancakes;
            panel.addPancake(number(0, TOPICS - 1));
            for (int count = 0; count == 0 || count <= MAX_COOKS && tokens.kind(at) == WORD; count++) {
                int cook = person();
                if (panel.cooks.contains(pancake, cook)) {
                    fail(NAME_ERROR, at - 1);
                } else if (count == MAX_COOKS) {
                    fail(LIMIT_ERROR, at - 1);
                }
                if (errorCode == 0) {
                    panel.cooks.add(pancake, cook);
                }
            }
        }

        private void readBid() {
            int person = person();
            checkTaster(person);
            int pancake = pancake();
            int bid = number(0, MAX_BID);
            if (errorCode == 0) {
                panel.bids.set(person, pancake, bid);
            }
        }

        private void readTogether() {
            int one = person();
            int other = person();
            if (one == other || panel.together.get(one, other) != 0) {
                fail(NAME_ERROR, at - 1);
            }
            if (errorCode == 0) {
                panel.joinCooks(one, other);
            }
        }

        private void readConflict() {
            int person = person();
            int pancake = pancake();
            if (panel.declared.get(person, pancake) != 0) {
                fail(LIMIT_ERROR, at - 1);
            }
            if (errorCode == 0) {
                panel.declared.set(person, pancake, 1);
            }
        }

        private void readSeat() {
            int person = person();
            int pancake = pancake();
            if (panel.refusalReason(person, pancake, 0) != 0) {
                fail(LIMIT_ERROR, at - 1);
            }
            if (errorCode == 0) {
                panel.seats.add(pancake, person);
            }
        }

        private void readLeave() {
            int person = person();
            int pancake = pancake();
            checkSeat(person, pancake);
            if (errorCode == 0) {
                panel.takeSeat(person, pancake);
            }
        }

        private void readScore() {
            int person = person();
            int pancake = pancake();
            checkSeat(person, pancake);
            int score = number(1, MAX_SCORE);
            if (errorCode == 0) {
                panel.scores.put(person, pancake, score);
            }
        }

        private void readTalk() {
            int pancake = pancake();
            checkScores(pancake);
            if (errorCode == 0) {
                panel.scores.holdTalk(pancake);
            }
        }

        private void readLimit() {
            int person = person();
            checkTaster(person);
            int limit = number(1, MAX_LIMIT);
            if (errorCode == 0) {
                setCell(panel.limits, person, limit);
            }
        }

        private void readKitchen() {
            int person = person();
            int kitchen = number(0, MAX_KITCHEN);
            if (errorCode == 0) {
                setCell(panel.kitchens, person, kitchen);
            }
        }

        private void readSwap() {
            int one = pancake();
            int other = pancake();
            if (one == other) {
                fail(NAME_ERROR, at - 1);
            }
            if (errorCode == 0) {
                panel.swapTopics(one, other);
            }
        }

        private void readClear() {
            int pancake = pancake();
            if (errorCode == 0) {
                panel.clearSeats(pancake);
            }
        }

        private void readEven() {
            int pancake = pancake();
            checkScores(pancake);
            if (errorCode == 0) {
                panel.scores.makeEven(pancake);
            }
        }

        private void readCopy() {
            int from = person();
            checkTaster(from);
            int to = person();
            checkTaster(to);
            if (from == to) {
                fail(NAME_ERROR, at - 1);
            }
            if (errorCode == 0) {
                panel.copyBids(from, to);
            }
        }

        private boolean beginRepeat() {
            int count = number(1, MAX_COUNT);
            if (tokens.kind(at) != OPEN) {
                fail(SYNTAX_ERROR, at);
            }
            at++;
            setCell(bodies, depth, at);
            setCell(passes, depth, count);
            depth++;
            return true;
        }

        /** Ends a pass at its closing bracket; answers whether another pass, and so an item, follows. */
        private boolean endPass() {
            int repeat = depth - 1;
            int left = cell(passes, repeat) - 1;
            setCell(passes, repeat, left);
            if (left > 0) {
                at = cell(bodies, repeat);
                return true;
            }
            at++;
            depth = repeat;
            return false;
        }

        // The readers of arguments: after an error they answer NONE, for which no row has a place.

        private int number(int least, int greatest) {
            long value = tokens.value(at);
            if (tokens.kind(at) != NUMBER) {
                fail(SYNTAX_ERROR, at);
            } else if (value < least || value > greatest) {
                fail(RANGE_ERROR, at);
            }
            at++;
            return errorCode == 0 ? (int) value : NONE;
        }

        private int pancake() {
            return number(0, panel.pancakes - 1);
        }

        private int person() {
            checkName();
            int person = panel.personNamed(tokens.value(at));
            if (person == NONE) {
                fail(NAME_ERROR, at);
            }
            at++;
            return errorCode == 0 ? person : NONE;
        }

        private void checkName() {
            if (tokens.kind(at) != WORD) {
                fail(SYNTAX_ERROR, at);
            } else if (letterCount(tokens.value(at)) > MAX_NAME_LETTERS) {
                fail(RANGE_ERROR, at);
            }
        }

        private void checkTaster(int person) {
            if (!panel.isOneOfTasters(person)) {
                fail(NAME_ERROR, at - 1);
            }
        }

        private void checkSeat(int person, int pancake) {
            if (!panel.seats.contains(pancake, person)) {
                fail(LIMIT_ERROR, at - 1);
            }
        }

        private void checkScores(int pancake) {
            if (!panel.scores.canBeTalkedOver(pancake)) {
                fail(LIMIT_ERROR, at - 1);
            }
        }

        // Only the first error counts, so that a check may follow one that has failed already.
        private void fail(int code, int token) {
            if (errorCode == 0) {
                errorCode = code;
                errorPosition = tokens.start(token);
            }
        }
    }
}
