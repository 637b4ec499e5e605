import java.util.Arrays;
import java.util.NoSuchElementException;

/** A workbench for parallel word rewriting; README.md tells how it is used. */
public final class ParallelRewriting {
    private static final int LETTERS = 6;
    private static final int TABLES = 3;
    private static final int LONGEST_WORD = 60;
    private static final int LONGEST_TEXT = 60;
    private static final int LONGEST_PRODUCTION = 4;
    private static final int LONGEST_LIST = 3;
    private static final int MOST_RULES = 6;
    private static final int UNDO_STEPS = 8;
    private static final int MOST_STEPS = 1000;
    private static final int MOST_STEPS_TO_ADULT = 50;
    private static final int LONGEST_COUNTED_ADULT = 4;
    private static final int LONGEST_SEQUENCE = 5;
    private static final int ROWS = 2;

    /** A table's productions lie in slots: first the lists, then a slot for each pair of letters. */
    private static final int LIST_SLOTS = LETTERS * LONGEST_LIST;
    private static final int SLOTS = LIST_SLOTS + LETTERS * LETTERS;

    /** Stands for a number that is not there: none of the numbers it stands for is negative. */
    private static final int NONE = -1;

    private static final int SKIP = 0;
    private static final int DRAW = 1;
    private static final int MOVE = 2;
    private static final int LEFT = 3;
    private static final int RIGHT = 4;
    private static final int OPEN = 5;
    private static final int CLOSE = 6;
    private static final int COMMANDS = 7;
    private static final int DEEPEST = 20;

    /** The shortest step is 1 / 2^20, so each coordinate is a whole number of such parts. */
    private static final int PARTS = 1 << DEEPEST;

    private final Text text;
    private final State live;
    private final State saved;
    private final History history;
    private final Word result;
    private final Growth growth;
    private final Recurrence recurrence;
    private final Adults adults;
    private final WayCounter wayCounter;
    private final SequenceSearch search;
    private final Figure figure;
    private final double[][] rows;
    private final int[] rowSizes;
    private boolean hasSaved;

    public ParallelRewriting() {
        text = new Text();
        live = new State();
        saved = new State();
        history = new History();
        result = new Word();
        growth = new Growth();
        recurrence = new Recurrence();
        adults = new Adults();
        wayCounter = new WayCounter();
        search = new SequenceSearch();
        figure = new Figure();
        rows = new double[ROWS][2 * (LONGEST_WORD + 1)];
        rowSizes = new int[ROWS];
    }

    public int appendCharacter(int character) throws IllegalArgumentException, IllegalStateException {
        if (character < 32 || character > 126) {
            throw new IllegalArgumentException("character is not from 32 to 126");
        }
        if (!text.append((char) character)) {
            throw new IllegalStateException("the text is full");
        }
        return text.length;
    }

    public int clearText() {
        int length = text.length;
        text.length = 0;
        return length;
    }

    public int setProduction(int table, int letter) throws IndexOutOfBoundsException, IllegalArgumentException {
        Table chosen = tableAt(table);
        checkLetter(letter);
        checkWordInText(LONGEST_PRODUCTION);
        chosen.replaceList(letter, text);
        return text.length;
    }

    public int addProduction(int table, int letter)
            throws IndexOutOfBoundsException, IllegalArgumentException, IllegalStateException {
        Table chosen = tableAt(table);
        checkLetter(letter);
        checkWordInText(LONGEST_PRODUCTION);
        int number = chosen.extendList(letter, text);
        if (number == NONE) {
            throw new IllegalStateException("the list is full");
        }
        return number;
    }

    public int productionCount(int table, int letter) throws IndexOutOfBoundsException {
        Table chosen = tableAt(table);
        checkLetter(letter);
        return chosen.listSizes[letter];
    }

    public boolean setContextRule(int table, int left, int letter)
            throws IndexOutOfBoundsException, IllegalArgumentException, IllegalStateException {
        Table chosen = tableAt(table);
        checkLetter(left);
        checkLetter(letter);
        checkWordInText(LONGEST_PRODUCTION);
        boolean replaced = chosen.hasRule(left, letter);
        if (!replaced && chosen.rules >= MOST_RULES) {
            throw new IllegalStateException("the table has all the context rules it can have");
        }
        chosen.putRule(left, letter, text);
        return replaced;
    }

    public boolean removeContextRule(int table, int left, int letter) throws IndexOutOfBoundsException {
        Table chosen = tableAt(table);
        checkLetter(left);
        checkLetter(letter);
        return chosen.dropRule(left, letter);
    }

    public boolean isDeterministic(int table) throws IndexOutOfBoundsException {
        return tableAt(table).leavesNoChoice();
    }

    public boolean isPlain(int table) throws IndexOutOfBoundsException {
        return tableAt(table).rules == 0;
    }

    public int setWord() throws IllegalArgumentException {
        checkWordInText(LONGEST_WORD);
        live.current.read(text);
        history.forget();
        return live.current.length;
    }

    public int setTarget() throws IllegalArgumentException {
        checkWordInText(LONGEST_WORD);
        live.target.read(text);
        return live.target.length;
    }

    public int wordLength() {
        return live.current.length;
    }

    public int wordLetter(int position) throws IndexOutOfBoundsException {
        if (position < 0 || position >= live.current.length) {
            throw new IndexOutOfBoundsException("no such position");
        }
        return live.current.letters[position];
    }

    public boolean isTarget() {
        return live.current.sameAs(live.target);
    }

    public int step(int table, int seed) throws IndexOutOfBoundsException, IllegalStateException {
        Table chosen = tableAt(table);
        if (!chosen.rewrite(live.current, seed, result)) {
            throw new IllegalStateException("the new word would be too long");
        }
        history.remember(live.current);
        live.current.copy(result);
        return live.current.length;
    }

    public boolean undo() {
        return history.takeBack(live.current);
    }

    public long lengthAfter(int table, int steps)
            throws IndexOutOfBoundsException, IllegalArgumentException, IllegalStateException, ArithmeticException {
        Table chosen = tableAt(table);
        advanceGrowth(chosen, steps);
        return growth.total;
    }

    public long countAfter(int table, int steps, int letter)
            throws IndexOutOfBoundsException, IllegalArgumentException, IllegalStateException, ArithmeticException {
        Table chosen = tableAt(table);
        checkLetter(letter);
        advanceGrowth(chosen, steps);
        return growth.counts[letter];
    }

    public int growthKind(int table) throws IndexOutOfBoundsException, IllegalStateException {
        Table chosen = tableAt(table);
        checkPlainAndDeterministic(chosen);
        int cycles = growth.longestChain(chosen, live.current);
        if (cycles == NONE) {
            return 3;
        }
        return Math.min(cycles, 2);
    }

    public int growthDegree(int table) throws IndexOutOfBoundsException, IllegalStateException, ArithmeticException {
        Table chosen = tableAt(table);
        checkPlainAndDeterministic(chosen);
        int cycles = growth.longestChain(chosen, live.current);
        if (cycles == NONE) {
            throw new ArithmeticException("no polynomial bounds the growth");
        }
        return Math.max(cycles - 1, 0);
    }

    public int recurrenceOrder(int table) throws IndexOutOfBoundsException, IllegalStateException {
        Table chosen = tableAt(table);
        checkPlainAndDeterministic(chosen);
        recurrence.find(chosen, live.current);
        return recurrence.order;
    }

    public int recurrenceCoefficient(int table, int number)
            throws IndexOutOfBoundsException, IllegalStateException, NoSuchElementException {
        Table chosen = tableAt(table);
        checkPlainAndDeterministic(chosen);
        recurrence.find(chosen, live.current);
        if (number < 1 || number > recurrence.order) {
            throw new NoSuchElementException("the recurrence has no such number");
        }
        return recurrence.coefficient(number);
    }

    public boolean isAdult(int table) throws IndexOutOfBoundsException {
        return adults.isKept(tableAt(table), live.current);
    }

    public int stepsToAdult(int table, int limit)
            throws IndexOutOfBoundsException, IllegalArgumentException, IllegalStateException, NoSuchElementException {
        Table chosen = tableAt(table);
        if (limit < 0 || limit > MOST_STEPS_TO_ADULT) {
            throw new IllegalArgumentException("limit is not from 0 to 50");
        }
        if (!chosen.leavesNoChoice()) {
            throw new IllegalStateException("the table is not deterministic");
        }
        int steps = adults.stepsUntilKept(chosen, live.current, limit);
        if (steps == NONE) {
            throw new NoSuchElementException("no adult word comes up to the limit");
        }
        return steps;
    }

    public int adultWords(int table, int length) throws IndexOutOfBoundsException, IllegalArgumentException {
        Table chosen = tableAt(table);
        if (length < 0 || length > LONGEST_COUNTED_ADULT) {
            throw new IllegalArgumentException("length is not from 0 to 4");
        }
        return adults.countKept(chosen, length);
    }

    public long ways(int table) throws IndexOutOfBoundsException, ArithmeticException {
        long count = wayCounter.count(tableAt(table), live.current, live.target);
        if (count == NONE) {
            throw new ArithmeticException("there are more than Long.MAX_VALUE choices");
        }
        return count;
    }

    public int sequenceCount(int steps) throws IllegalArgumentException, IllegalStateException {
        searchSequences(steps);
        return search.found;
    }

    public int firstSequence(int steps)
            throws IllegalArgumentException, IllegalStateException, NoSuchElementException {
        searchSequences(steps);
        if (search.first == NONE) {
            throw new NoSuchElementException("no sequence leads to the target word");
        }
        return search.first;
    }

    public void setCommand(int letter) throws IndexOutOfBoundsException, IllegalArgumentException {
        checkLetter(letter);
        int command = commandInText();
        if (command == NONE) {
            throw new IllegalArgumentException("the text is not the name of a command");
        }
        live.commands[letter] = command;
    }

    public int segmentCount() throws IllegalStateException {
        drawFigure();
        return figure.segments;
    }

    public double inkLength() throws IllegalStateException {
        drawFigure();
        return figure.ink;
    }

    public double extent(int side) throws IllegalArgumentException, IllegalStateException {
        if (side < 0 || side > 3) {
            throw new IllegalArgumentException("side is not from 0 to 3");
        }
        drawFigure();
        double[] coordinates = side < 2 ? figure.xs : figure.ys;
        return side % 2 == 0 ? figure.lowest(coordinates) : figure.greatest(coordinates);
    }

    public int openDepth() throws IllegalStateException {
        drawFigure();
        return figure.deepest;
    }

    public int keepPoints(int row, boolean single) throws IndexOutOfBoundsException, IllegalStateException {
        if (row < 0 || row >= ROWS) {
            throw new IndexOutOfBoundsException("no such row");
        }
        drawFigure();
        double[] kept = rows[row];
        for (int k = 0; k < figure.points; k++) {
            kept[2 * k] = inTypeOfRow(figure.xs[k], single);
            kept[2 * k + 1] = inTypeOfRow(figure.ys[k], single);
        }
        rowSizes[row] = 2 * figure.points;
        return rowSizes[row];
    }

    public double remainder(int row, int dividend, int divisor)
            throws IllegalArgumentException, IllegalStateException, IndexOutOfBoundsException, ArithmeticException {
        if (row < 0 || row >= ROWS) {
            throw new IllegalArgumentException("no such row");
        }
        int size = rowSizes[row];
        if (size == 0) {
            throw new IllegalStateException("the row is missing");
        }
        if (dividend < 0 || dividend >= size || divisor < 0 || divisor >= size) {
            throw new IndexOutOfBoundsException("no such index");
        }
        long divided = wholeParts(rows[row][dividend]);
        long by = wholeParts(rows[row][divisor]);
        if (by == 0) {
            throw new ArithmeticException("the divisor is 0");
        }
        double left = (double) (Math.abs(divided) % Math.abs(by)) / PARTS;
        return divided < 0 ? -left : left;
    }

    public void save() {
        saved.copy(live);
        hasSaved = true;
    }

    public void restore() throws IllegalStateException {
        if (!hasSaved) {
            throw new IllegalStateException("nothing was saved");
        }
        live.copy(saved);
        history.forget();
    }

    private Table tableAt(int table) {
        if (table < 0 || table >= TABLES) {
            throw new IndexOutOfBoundsException("no such table");
        }
        return live.tables[table];
    }

    private static void checkLetter(int letter) {
        if (letter < 0 || letter >= LETTERS) {
            throw new IndexOutOfBoundsException("no such letter");
        }
    }

    private void checkWordInText(int longest) {
        if (text.length > longest || !text.hasOnlyLetters()) {
            throw new IllegalArgumentException("the text is not such a word");
        }
    }

    private static void checkPlainAndDeterministic(Table table) {
        if (table.rules > 0 || !table.leavesNoChoice()) {
            throw new IllegalStateException("the table is not deterministic or not plain");
        }
    }

    private void advanceGrowth(Table table, int steps) {
        if (steps < 0 || steps > MOST_STEPS) {
            throw new IllegalArgumentException("the number of steps is not from 0 to 1000");
        }
        checkPlainAndDeterministic(table);
        if (!growth.advance(table, live.current, steps)) {
            throw new ArithmeticException("the word has more than Long.MAX_VALUE letters");
        }
    }

    private void searchSequences(int steps) {
        if (steps < 0 || steps > LONGEST_SEQUENCE) {
            throw new IllegalArgumentException("the number of steps is not from 0 to 5");
        }
        for (int table = 0; table < TABLES; table++) {
            if (!live.tables[table].leavesNoChoice()) {
                throw new IllegalStateException("a table is not deterministic");
            }
        }
        search.run(live, steps);
    }

    private int commandInText() {
        for (int command = 0; command < COMMANDS; command++) {
            if (text.says(commandName(command))) {
                return command;
            }
        }
        return NONE;
    }

    private static String commandName(int command) {
        switch (command) {
            case DRAW:
                return "draw";
            case MOVE:
                return "move";
            case LEFT:
                return "left";
            case RIGHT:
                return "right";
            case OPEN:
                return "open";
            case CLOSE:
                return "close";
            default:
                return "skip";
        }
    }

    private void drawFigure() {
        if (!figure.draw(live.current, live.commands)) {
            throw new IllegalStateException("the word has no figure");
        }
    }

    /** Each float is also a double, so a row of either type is held in doubles. */
    private static double inTypeOfRow(double coordinate, boolean single) {
        return single ? (double) (float) coordinate : coordinate;
    }

    /**
     * The language of this file has no % on doubles. Coordinates, rounded to float or not, are
     * whole numbers of parts, and the remainder of these whole numbers is the remainder that % gives.
     */
    private static long wholeParts(double coordinate) {
        return (long) (coordinate * PARTS);
    }

    private static final class Text {
        final char[] characters;
        int length;

        Text() {
            characters = new char[LONGEST_TEXT];
        }

        boolean append(char character) {
            if (length >= characters.length) {
                return false;
            }
            characters[length] = character;
            length++;
            return true;
        }

        boolean hasOnlyLetters() {
            for (int i = 0; i < length; i++) {
                if (characters[i] < 'a' || characters[i] >= 'a' + LETTERS) {
                    return false;
                }
            }
            return true;
        }

        int letterAt(int position) {
            return characters[position] - 'a';
        }

        boolean says(String name) {
            if (length != name.length()) {
                return false;
            }
            for (int i = 0; i < length; i++) {
                if (characters[i] != name.charAt(i)) {
                    return false;
                }
            }
            return true;
        }
    }

    private static final class Word {
        final int[] letters;
        int length;

        Word() {
            letters = new int[LONGEST_WORD];
        }

        void read(Text text) {
            length = 0;
            for (int i = 0; i < text.length; i++) {
                append(text.letterAt(i));
            }
        }

        boolean append(int letter) {
            if (length >= letters.length) {
                return false;
            }
            letters[length] = letter;
            length++;
            return true;
        }

        void copy(Word other) {
            System.arraycopy(other.letters, 0, letters, 0, other.length);
            length = other.length;
        }

        boolean sameAs(Word other) {
            return length == other.length && agreesWith(other);
        }

        /** Whether one of the two words begins with the other. */
        boolean agreesWith(Word other) {
            int common = Math.min(length, other.length);
            for (int i = 0; i < common; i++) {
                if (letters[i] != other.letters[i]) {
                    return false;
                }
            }
            return true;
        }
    }

    private static final class Table {
        final int[] listSizes;
        final int[] lengths;
        final int[] letters;
        int rules;

        Table() {
            listSizes = new int[LETTERS];
            lengths = new int[SLOTS];
            letters = new int[SLOTS * LONGEST_PRODUCTION];
            Arrays.fill(lengths, NONE);
            for (int letter = 0; letter < LETTERS; letter++) {
                int slot = listSlot(letter, 0);
                listSizes[letter] = 1;
                lengths[slot] = 1;
                letters[slot * LONGEST_PRODUCTION] = letter;
            }
        }

        static int listSlot(int letter, int number) {
            return letter * LONGEST_LIST + number;
        }

        static int ruleSlot(int left, int letter) {
            return LIST_SLOTS + left * LETTERS + letter;
        }

        void copy(Table other) {
            System.arraycopy(other.listSizes, 0, listSizes, 0, LETTERS);
            System.arraycopy(other.lengths, 0, lengths, 0, SLOTS);
            System.arraycopy(other.letters, 0, letters, 0, SLOTS * LONGEST_PRODUCTION);
            rules = other.rules;
        }

        private void fillSlot(int slot, Text text) {
            int length = Math.min(text.length, LONGEST_PRODUCTION);
            for (int i = 0; i < length; i++) {
                letters[slot * LONGEST_PRODUCTION + i] = text.letterAt(i);
            }
            lengths[slot] = length;
        }

        void replaceList(int letter, Text text) {
            fillSlot(listSlot(letter, 0), text);
            listSizes[letter] = 1;
        }

        int extendList(int letter, Text text) {
            int number = listSizes[letter];
            if (number >= LONGEST_LIST) {
                return NONE;
            }
            fillSlot(listSlot(letter, number), text);
            listSizes[letter] = number + 1;
            return number;
        }

        boolean hasRule(int left, int letter) {
            return lengths[ruleSlot(left, letter)] != NONE;
        }

        void putRule(int left, int letter, Text text) {
            if (!hasRule(left, letter)) {
                rules++;
            }
            fillSlot(ruleSlot(left, letter), text);
        }

        boolean dropRule(int left, int letter) {
            if (!hasRule(left, letter)) {
                return false;
            }
            lengths[ruleSlot(left, letter)] = NONE;
            rules--;
            return true;
        }

        boolean leavesNoChoice() {
            for (int letter = 0; letter < LETTERS; letter++) {
                if (listSizes[letter] != 1) {
                    return false;
                }
            }
            return true;
        }

        int letterOf(int slot, int position) {
            return letters[slot * LONGEST_PRODUCTION + position];
        }

        /** The slot of the context rule that replaces a letter of a word, or NONE if it needs a choice. */
        int ruleSlotAt(Word word, int position) {
            if (position < 1) {
                return NONE;
            }
            int slot = ruleSlot(word.letters[position - 1], word.letters[position]);
            return lengths[slot] == NONE ? NONE : slot;
        }

        /** Puts the word that a step gives into result; false if that word would be too long. */
        boolean rewrite(Word word, int seed, Word result) {
            int x = seed;
            result.length = 0;
            for (int i = 0; i < word.length; i++) {
                int slot = ruleSlotAt(word, i);
                if (slot == NONE) {
                    x = x * 1103515245 + 12345;
                    slot = chosenSlot(word.letters[i], x >>> 16);
                }
                if (!appendSlot(slot, result)) {
                    return false;
                }
            }
            return true;
        }

        private int chosenSlot(int letter, int draw) {
            int size = listSizes[letter];
            return listSlot(letter, size > 1 ? draw % size : 0);
        }

        private boolean appendSlot(int slot, Word result) {
            for (int i = 0; i < lengths[slot]; i++) {
                if (!result.append(letterOf(slot, i))) {
                    return false;
                }
            }
            return true;
        }

        boolean listIsUniform(int letter) {
            for (int number = 1; number < listSizes[letter]; number++) {
                if (!sameProductions(listSlot(letter, 0), listSlot(letter, number))) {
                    return false;
                }
            }
            return true;
        }

        private boolean sameProductions(int slot, int other) {
            if (lengths[slot] != lengths[other]) {
                return false;
            }
            for (int i = 0; i < lengths[slot]; i++) {
                if (letterOf(slot, i) != letterOf(other, i)) {
                    return false;
                }
            }
            return true;
        }
    }

    /** What save keeps. */
    private static final class State {
        final Table[] tables;
        final Word current;
        final Word target;
        final int[] commands;

        State() {
            tables = new Table[TABLES];
            for (int table = 0; table < TABLES; table++) {
                tables[table] = new Table();
            }
            current = new Word();
            target = new Word();
            commands = new int[LETTERS];
            Arrays.fill(commands, SKIP);
        }

        void copy(State other) {
            for (int table = 0; table < TABLES; table++) {
                tables[table].copy(other.tables[table]);
            }
            current.copy(other.current);
            target.copy(other.target);
            System.arraycopy(other.commands, 0, commands, 0, LETTERS);
        }
    }

    /** A ring of the words before the latest steps; the oldest word gives way to a new one. */
    private static final class History {
        final Word[] words;
        int oldest;
        int size;

        History() {
            words = new Word[UNDO_STEPS];
            for (int i = 0; i < UNDO_STEPS; i++) {
                words[i] = new Word();
            }
        }

        void remember(Word word) {
            if (size >= UNDO_STEPS) {
                oldest = (oldest + 1) % UNDO_STEPS;
                size--;
            }
            words[(oldest + size) % UNDO_STEPS].copy(word);
            size++;
        }

        boolean takeBack(Word word) {
            if (size == 0) {
                return false;
            }
            size--;
            word.copy(words[(oldest + size) % UNDO_STEPS]);
            return true;
        }

        void forget() {
            size = 0;
        }
    }

    /** Growth under a plain deterministic table, where only the numbers of the letters matter. */
    private static final class Growth {
        long[] counts;
        long[] next;
        long total;
        /** Bit j of reach[i] tells whether the letter i becomes a word with j after one or more steps. */
        final int[] reach;
        final int[] chains;

        Growth() {
            counts = new long[LETTERS];
            next = new long[LETTERS];
            reach = new int[LETTERS];
            chains = new int[LETTERS];
        }

        /** Counts the letters after some steps; false if a word on the way is longer than a long can say. */
        boolean advance(Table table, Word word, int steps) {
            Arrays.fill(counts, 0);
            for (int i = 0; i < word.length; i++) {
                counts[word.letters[i]]++;
            }
            total = word.length;
            for (int n = 0; n < steps; n++) {
                if (!advanceOnce(table)) {
                    return false;
                }
            }
            return true;
        }

        private boolean advanceOnce(Table table) {
            Arrays.fill(next, 0);
            total = 0;
            for (int letter = 0; letter < LETTERS; letter++) {
                int slot = Table.listSlot(letter, 0);
                for (int i = 0; i < table.lengths[slot]; i++) {
                    if (counts[letter] > Long.MAX_VALUE - total) {
                        return false;
                    }
                    total += counts[letter];
                    next[table.letterOf(slot, i)] += counts[letter];
                }
            }
            long[] before = counts;
            counts = next;
            next = before;
            return true;
        }

        /**
         * Letters that come back to themselves form cycles. The growth is exponential if a letter that
         * the word reaches comes back more than once in a round (NONE is answered then); otherwise a way
         * through k cycles gives a growth of degree k - 1, and the greatest such k is answered.
         */
        int longestChain(Table table, Word word) {
            findReach(table);
            findChains();
            int reached = lettersReached(word);
            int longest = 0;
            for (int letter = 0; letter < LETTERS; letter++) {
                if (contains(reached, letter)) {
                    if (returnsTo(letter, table) > 1) {
                        return NONE;
                    }
                    longest = Math.max(longest, chains[letter]);
                }
            }
            return longest;
        }

        private static boolean contains(int letterSet, int letter) {
            return (letterSet >> letter & 1) != 0;
        }

        private void findReach(Table table) {
            for (int letter = 0; letter < LETTERS; letter++) {
                int slot = Table.listSlot(letter, 0);
                reach[letter] = 0;
                for (int i = 0; i < table.lengths[slot]; i++) {
                    reach[letter] |= 1 << table.letterOf(slot, i);
                }
            }
            for (int through = 0; through < LETTERS; through++) {
                for (int letter = 0; letter < LETTERS; letter++) {
                    if (contains(reach[letter], through)) {
                        reach[letter] |= reach[through];
                    }
                }
            }
        }

        /** A chain has at most as many cycles as there are letters, so as many rounds settle all chains. */
        private void findChains() {
            for (int letter = 0; letter < LETTERS; letter++) {
                chains[letter] = contains(reach[letter], letter) ? 1 : 0;
            }
            for (int round = 0; round < LETTERS; round++) {
                for (int letter = 0; letter < LETTERS; letter++) {
                    lengthenChain(letter);
                }
            }
        }

        private void lengthenChain(int letter) {
            if (chains[letter] == 0) {
                return;
            }
            for (int other = 0; other < LETTERS; other++) {
                if (contains(reach[letter], other) && !contains(reach[other], letter)) {
                    chains[letter] = Math.max(chains[letter], chains[other] + 1);
                }
            }
        }

        private int lettersReached(Word word) {
            int reached = 0;
            for (int i = 0; i < word.length; i++) {
                reached |= 1 << word.letters[i] | reach[word.letters[i]];
            }
            return reached;
        }

        private int returnsTo(int letter, Table table) {
            int slot = Table.listSlot(letter, 0);
            int returns = 0;
            for (int i = 0; i < table.lengths[slot]; i++) {
                if (contains(reach[table.letterOf(slot, i)], letter)) {
                    returns++;
                }
            }
            return returns;
        }
    }

    /**
     * The recurrence of the lengths by the algorithm of Berlekamp and Massey. Six counts follow a
     * linear recurrence of order six, so the order is at most 6 and 12 elements determine it.
     */
    private static final class Recurrence {
        static final int MODULUS = 10007;
        static final int ELEMENTS = 2 * LETTERS;

        final int[] elements;
        int[] counts;
        int[] next;
        /** The element n plus the sum of connection[i] times the element n - i is 0, i from 1 to the order. */
        int[] connection;
        int[] earlier;
        int[] spare;
        int order;
        int shift;
        int earlierMiss;

        Recurrence() {
            elements = new int[ELEMENTS];
            counts = new int[LETTERS];
            next = new int[LETTERS];
            connection = new int[ELEMENTS + 1];
            earlier = new int[ELEMENTS + 1];
            spare = new int[ELEMENTS + 1];
        }

        int coefficient(int number) {
            return (MODULUS - connection[number]) % MODULUS;
        }

        void find(Table table, Word word) {
            fillElements(table, word);
            Arrays.fill(connection, 0);
            Arrays.fill(earlier, 0);
            connection[0] = 1;
            earlier[0] = 1;
            order = 0;
            shift = 1;
            earlierMiss = 1;
            for (int n = 0; n < ELEMENTS; n++) {
                int miss = missAt(n);
                if (miss != 0) {
                    correct(n, miss);
                }
                shift++;
            }
        }

        private void fillElements(Table table, Word word) {
            Arrays.fill(counts, 0);
            for (int i = 0; i < word.length; i++) {
                counts[word.letters[i]]++;
            }
            for (int n = 0; n < ELEMENTS; n++) {
                int length = 0;
                for (int letter = 0; letter < LETTERS; letter++) {
                    length += counts[letter];
                }
                elements[n] = length % MODULUS;
                advanceCounts(table);
            }
        }

        private void advanceCounts(Table table) {
            Arrays.fill(next, 0);
            for (int letter = 0; letter < LETTERS; letter++) {
                int slot = Table.listSlot(letter, 0);
                for (int i = 0; i < table.lengths[slot]; i++) {
                    int made = table.letterOf(slot, i);
                    next[made] = (next[made] + counts[letter]) % MODULUS;
                }
            }
            int[] before = counts;
            counts = next;
            next = before;
        }

        private int missAt(int n) {
            int miss = elements[n];
            for (int i = 1; i <= order && i <= n; i++) {
                miss = (miss + connection[i] * elements[n - i]) % MODULUS;
            }
            return miss;
        }

        private void correct(int n, int miss) {
            int factor = miss * inverse(earlierMiss) % MODULUS;
            System.arraycopy(connection, 0, spare, 0, connection.length);
            for (int i = 0; i + shift < connection.length; i++) {
                int change = factor * earlier[i] % MODULUS;
                connection[i + shift] = (connection[i + shift] + MODULUS - change) % MODULUS;
            }
            if (2 * order <= n) {
                order = n + 1 - order;
                int[] replaced = earlier;
                earlier = spare;
                spare = replaced;
                earlierMiss = miss;
                shift = 0;
            }
        }

        /** The modulus is prime, so a number to the power of the modulus less 2 is its inverse. */
        private static int inverse(int number) {
            int power = 1;
            int square = number;
            for (int exponent = MODULUS - 2; exponent > 0; exponent >>= 1) {
                if ((exponent & 1) != 0) {
                    power = power * square % MODULUS;
                }
                square = square * square % MODULUS;
            }
            return power;
        }
    }

    private static final class Adults {
        final Word word;
        final Word image;

        Adults() {
            word = new Word();
            image = new Word();
        }

        boolean isKept(Table table, Word kept) {
            return hasOneImage(table, kept) && table.rewrite(kept, 0, image) && image.sameAs(kept);
        }

        /** Other productions at one place make another word, so all choices agree only if each list does. */
        private static boolean hasOneImage(Table table, Word word) {
            for (int i = 0; i < word.length; i++) {
                if (table.ruleSlotAt(word, i) == NONE && !table.listIsUniform(word.letters[i])) {
                    return false;
                }
            }
            return true;
        }

        int stepsUntilKept(Table table, Word start, int limit) {
            word.copy(start);
            for (int steps = 0; steps <= limit; steps++) {
                if (!table.rewrite(word, 0, image)) {
                    return NONE;
                }
                if (image.sameAs(word)) {
                    return steps;
                }
                word.copy(image);
            }
            return NONE;
        }

        int countKept(Table table, int length) {
            word.length = 0;
            return countExtensions(table, length);
        }

        /**
         * Counts the adult words of a length that begin with the word. The image of a beginning is a
         * beginning of the image, so a beginning that its own image contradicts is left at once.
         */
        private int countExtensions(Table table, int length) {
            if (!hasOneImage(table, word) || !table.rewrite(word, 0, image) || !image.agreesWith(word)) {
                return 0;
            }
            if (word.length >= length) {
                return image.length == word.length ? 1 : 0;
            }
            int count = 0;
            int beginning = word.length;
            for (int letter = 0; letter < LETTERS; letter++) {
                word.append(letter);
                count += countExtensions(table, length);
                word.length = beginning;
            }
            return count;
        }
    }

    private static final class WayCounter {
        /** ways[j]: how often the letters so far became the first j letters of the target; NONE if too often. */
        long[] ways;
        long[] next;

        WayCounter() {
            ways = new long[LONGEST_WORD + 1];
            next = new long[LONGEST_WORD + 1];
        }

        /** The number of choices, or NONE if a long cannot say it. */
        long count(Table table, Word word, Word target) {
            Arrays.fill(ways, 0);
            ways[0] = 1;
            for (int i = 0; i < word.length; i++) {
                Arrays.fill(next, 0);
                addLetter(table, word, i, target);
                long[] before = ways;
                ways = next;
                next = before;
            }
            return ways[target.length];
        }

        private void addLetter(Table table, Word word, int position, Word target) {
            int rule = table.ruleSlotAt(word, position);
            if (rule != NONE) {
                addProductionOf(table, rule, target);
                return;
            }
            int letter = word.letters[position];
            for (int number = 0; number < table.listSizes[letter]; number++) {
                addProductionOf(table, Table.listSlot(letter, number), target);
            }
        }

        private void addProductionOf(Table table, int slot, Word target) {
            int length = table.lengths[slot];
            for (int j = 0; j + length <= target.length; j++) {
                if (ways[j] != 0 && standsAt(table, slot, target, j)) {
                    next[j + length] = sum(next[j + length], ways[j]);
                }
            }
        }

        private static boolean standsAt(Table table, int slot, Word target, int position) {
            for (int i = 0; i < table.lengths[slot]; i++) {
                if (table.letterOf(slot, i) != target.letters[position + i]) {
                    return false;
                }
            }
            return true;
        }

        /** Too many ways to a beginning of the target matter only if they lead to its end. */
        private static long sum(long a, long b) {
            if (a == NONE || b == NONE || a > Long.MAX_VALUE - b) {
                return NONE;
            }
            return a + b;
        }
    }

    private static final class SequenceSearch {
        final Word[] trail;
        int found;
        int first;

        SequenceSearch() {
            trail = new Word[LONGEST_SEQUENCE + 1];
            for (int i = 0; i <= LONGEST_SEQUENCE; i++) {
                trail[i] = new Word();
            }
        }

        void run(State state, int steps) {
            found = 0;
            first = NONE;
            trail[0].copy(state.current);
            follow(state, 0, Math.min(steps, LONGEST_SEQUENCE), 0);
        }

        /** Goes through the sequences in lexicographic order, so the one that is found first is the first. */
        private void follow(State state, int depth, int steps, int sequence) {
            if (depth >= steps) {
                if (trail[depth].sameAs(state.target)) {
                    first = found == 0 ? sequence : first;
                    found++;
                }
                return;
            }
            for (int table = 0; table < TABLES; table++) {
                if (state.tables[table].rewrite(trail[depth], 0, trail[depth + 1])) {
                    follow(state, depth + 1, steps, sequence * TABLES + table);
                }
            }
        }
    }

    private static final class Figure {
        /** The points of the pen after the first 0, 1, 2 and so on letters. */
        final double[] xs;
        final double[] ys;
        int points;
        /** The end points of the different segments, four numbers for each. */
        final double[] ends;
        int segments;
        double ink;
        /** What is remembered: x, y and step length, three numbers for each, and the headings. */
        final double[] heldNumbers;
        final int[] heldHeadings;
        int depth;
        int deepest;
        double x;
        double y;
        double stepLength;
        int heading;

        Figure() {
            xs = new double[LONGEST_WORD + 1];
            ys = new double[LONGEST_WORD + 1];
            ends = new double[4 * LONGEST_WORD];
            heldNumbers = new double[3 * DEEPEST];
            heldHeadings = new int[DEEPEST];
        }

        /** Draws the figure of a word; false if it has none. */
        boolean draw(Word word, int[] commands) {
            begin();
            keepPoint();
            for (int i = 0; i < word.length; i++) {
                if (!carryOut(commands[word.letters[i]])) {
                    return false;
                }
                keepPoint();
            }
            return true;
        }

        private void begin() {
            points = 0;
            segments = 0;
            ink = 0;
            depth = 0;
            deepest = 0;
            x = 0;
            y = 0;
            stepLength = 1;
            heading = 0;
        }

        private void keepPoint() {
            if (points < xs.length) {
                xs[points] = x;
                ys[points] = y;
                points++;
            }
        }

        private boolean carryOut(int command) {
            switch (command) {
                case DRAW:
                    drawAhead();
                    return true;
                case MOVE:
                    goAhead();
                    return true;
                case LEFT:
                    heading = (heading + 1) % 4;
                    return true;
                case RIGHT:
                    heading = (heading + 3) % 4;
                    return true;
                case OPEN:
                    return open();
                case CLOSE:
                    return close();
                default:
                    return true;
            }
        }

        private void goAhead() {
            switch (heading) {
                case 0:
                    x += stepLength;
                    break;
                case 1:
                    y += stepLength;
                    break;
                case 2:
                    x -= stepLength;
                    break;
                default:
                    y -= stepLength;
                    break;
            }
        }

        private void drawAhead() {
            double fromX = x;
            double fromY = y;
            goAhead();
            if (!isDrawn(fromX, fromY) && 4 * segments + 3 < ends.length) {
                ends[4 * segments] = fromX;
                ends[4 * segments + 1] = fromY;
                ends[4 * segments + 2] = x;
                ends[4 * segments + 3] = y;
                segments++;
                ink += stepLength;
            }
        }

        private boolean isDrawn(double fromX, double fromY) {
            for (int i = 0; i < segments; i++) {
                boolean forward = isEnd(2 * i, fromX, fromY) && isEnd(2 * i + 1, x, y);
                boolean backward = isEnd(2 * i, x, y) && isEnd(2 * i + 1, fromX, fromY);
                if (forward || backward) {
                    return true;
                }
            }
            return false;
        }

        private boolean isEnd(int end, double atX, double atY) {
            return ends[2 * end] == atX && ends[2 * end + 1] == atY;
        }

        private boolean open() {
            if (depth >= DEEPEST) {
                return false;
            }
            heldNumbers[3 * depth] = x;
            heldNumbers[3 * depth + 1] = y;
            heldNumbers[3 * depth + 2] = stepLength;
            heldHeadings[depth] = heading;
            depth++;
            deepest = Math.max(deepest, depth);
            stepLength /= 2;
            return true;
        }

        private boolean close() {
            if (depth == 0) {
                return false;
            }
            depth--;
            x = heldNumbers[3 * depth];
            y = heldNumbers[3 * depth + 1];
            stepLength = heldNumbers[3 * depth + 2];
            heading = heldHeadings[depth];
            return true;
        }

        double lowest(double[] coordinates) {
            double lowest = 0;
            for (int i = 0; i < points; i++) {
                lowest = coordinates[i] < lowest ? coordinates[i] : lowest;
            }
            return lowest;
        }

        double greatest(double[] coordinates) {
            double greatest = 0;
            for (int i = 0; i < points; i++) {
                greatest = coordinates[i] > greatest ? coordinates[i] : greatest;
            }
            return greatest;
        }
    }
}
