/**
 * The game of boxes on boards of 1 to 4 columns and rows.
 *
 * A set of lines is a long: line n is its bit n. What can be said of a position by its drawn
 * lines alone is a function of such a set, so trying a line needs no undoing.
 */
public final class BoxesGame {
    public static final int NONE = -1;

    private static final int MAX_SIDE = 4;
    private static final int MAX_BOXES = 16;
    private static final int MAX_LINES = 40;
    private static final int MAX_SYMMETRIES = 8;
    private static final int MAX_EXACT_LINES = 12;
    private static final int MAX_DIGEST_LINES = 8;
    private static final int MAX_PREDICTED_STRINGS = 10;
    private static final int MAX_TEXT = 60;
    private static final int MAX_GAMES = 20;

    private static final int BEYOND_ANY_DIFFERENCE = 1000;

    private static final int DRAWN = 0;
    private static final int TAKING = 1;
    private static final int SAFE = 2;
    private static final int GIVING = 3;

    private static final int GREEDY_STYLE = 0;
    private static final int EXACT_STYLE = 2;

    private static final int LAST_COUNT = 10;
    private static final int LAST_PROPERTY = 4;
    private static final int LAST_CONTROL = 5;

    private final Board board;
    private final Position position;
    private final Position trial;
    private final Strings strings;
    private final Solver solver;
    private final Symmetry symmetry;
    private final Styles styles;
    private final Input input;

    public BoxesGame() {
        board = new Board();
        position = new Position(board);
        trial = new Position(board);
        strings = new Strings(board);
        solver = new Solver(board);
        symmetry = new Symmetry(board);
        styles = new Styles(board, solver);
        input = new Input(board);
        start(2, 2);
    }

    private void start(int columns, int rows) {
        board.setUp(columns, rows);
        position.clear();
        symmetry.setUp();
        // both remember a position by its lines alone, which mean others on another board
        strings.forget();
        solver.forget();
    }

    // ---- the game

    public int begin(int columns, int rows) throws IllegalArgumentException {
        if (columns < 1 || columns > MAX_SIDE || rows < 1 || rows > MAX_SIDE) {
            throw new IllegalArgumentException("columns or rows is out of range");
        }
        start(columns, rows);
        return board.lineCount;
    }

    public int draw(int line) throws IndexOutOfBoundsException, IllegalStateException {
        if (!board.hasLine(line)) {
            throw new IndexOutOfBoundsException("no such line");
        }
        if (isDrawn(line)) {
            throw new IllegalStateException("the line is drawn already");
        }
        return position.make(line);
    }

    public int undo() throws IllegalStateException {
        if (position.moveCount == 0) {
            throw new IllegalStateException("no line is drawn");
        }
        return position.takeBack();
    }

    public int follow(int style, int moves) throws IllegalArgumentException {
        if (!isStyle(style) || moves < 1 || moves > MAX_LINES) {
            throw new IllegalArgumentException("style or moves is out of range");
        }
        int made = 0;
        for (int i = 0; i < moves; i++) {
            int line = styles.choose(style, position.lines);
            if (line == NONE) {
                break;
            }
            position.make(line);
            made++;
        }
        return made;
    }

    private boolean isDrawn(int line) {
        return contains(position.lines, line);
    }

    private static boolean isStyle(int style) {
        return style >= GREEDY_STYLE && style <= EXACT_STYLE;
    }

    // ---- input

    public int append(int code) throws IllegalArgumentException, IllegalStateException {
        if (code < 32 || code > 126) {
            throw new IllegalArgumentException("code is not 32 to 126");
        }
        if (input.length >= MAX_TEXT) {
            throw new IllegalStateException("the buffer is full");
        }
        input.add(code);
        return input.length;
    }

    public int clearInput() {
        int before = input.length;
        input.length = 0;
        return before;
    }

    public int firstError() {
        return input.firstWrong();
    }

    public int load() throws IllegalStateException, IllegalArgumentException {
        if (!input.isComplete()) {
            throw new IllegalStateException("the buffer is not a complete text");
        }
        if (!input.canBeDrawn(position.lines)) {
            throw new IllegalArgumentException("a line is drawn already, or occurs twice");
        }
        int completed = 0;
        for (int at = 0; at < input.length; at += Input.WIDTH) {
            completed += position.make(input.lineAt(at));
        }
        input.length = 0;
        return completed;
    }

    // ---- the position

    public int count(int what) throws IllegalArgumentException {
        long drawnLines = position.lines;
        switch (what) {
            case 0: return board.columns;
            case 1: return board.rows;
            case 2: return board.lineCount;
            case 3: return position.moveCount;
            case 4: return board.completeBoxes(drawnLines);
            case 5: return position.mover;
            case 6: return Long.bitCount(board.takingLines(drawnLines));
            case 7: return Long.bitCount(board.safeLines(drawnLines));
            case 8: return Long.bitCount(board.givingLines(drawnLines));
            case 9: return board.runOf(drawnLines);
            case 10: return stringCount();
            default: throw new IllegalArgumentException("what is not 0 to 10");
        }
    }

    public int score(int player) throws IllegalArgumentException {
        if (player != 0 && player != 1) {
            throw new IllegalArgumentException("player is not 0 or 1");
        }
        return position.scoreOf(player);
    }

    public int line(boolean vertical, int x, int y) throws IndexOutOfBoundsException {
        int number = board.numberOf(vertical, x, y);
        if (number == NONE) {
            throw new IndexOutOfBoundsException("no such line");
        }
        return number;
    }

    public int kind(int line) throws IndexOutOfBoundsException {
        if (!board.hasLine(line)) {
            throw new IndexOutOfBoundsException("no such line");
        }
        if (isDrawn(line)) {
            return DRAWN;
        }
        if (contains(board.takingLines(position.lines), line)) {
            return TAKING;
        }
        return contains(board.safeLines(position.lines), line) ? SAFE : GIVING;
    }

    public int price(int line) throws IndexOutOfBoundsException, IllegalStateException {
        if (!board.hasLine(line)) {
            throw new IndexOutOfBoundsException("no such line");
        }
        if (isDrawn(line)) {
            throw new IllegalStateException("the line is drawn");
        }
        return board.runOf(position.lines | bit(line));
    }

    public int drawn(int move) throws IndexOutOfBoundsException {
        if (move < 0 || move >= position.moveCount) {
            throw new IndexOutOfBoundsException("no such move");
        }
        return position.moveAt(move);
    }

    public int owner(int box) throws IndexOutOfBoundsException {
        if (!board.hasBox(box)) {
            throw new IndexOutOfBoundsException("no such box");
        }
        return position.ownerOf(box);
    }

    public int openSides(int box) throws IndexOutOfBoundsException {
        if (!board.hasBox(box)) {
            throw new IndexOutOfBoundsException("no such box");
        }
        return Long.bitCount(board.openAround(position.lines, box));
    }

    public int safeMoves() {
        long lines = position.lines;
        int made = 0;
        for (int i = 0; i < MAX_LINES; i++) {
            int line = lowestOf(board.safeLines(lines));
            if (line == NONE) {
                break;
            }
            lines |= bit(line);
            made++;
        }
        return made;
    }

    // ---- strings

    public int stringOf(int box) throws IndexOutOfBoundsException {
        if (!board.hasBox(box)) {
            throw new IndexOutOfBoundsException("no such box");
        }
        strings.find(position.lines);
        return strings.numberAt(box);
    }

    public int string(int string, int what) throws IndexOutOfBoundsException, IllegalArgumentException {
        if (string < 0 || string >= stringCount()) {
            throw new IndexOutOfBoundsException("no such string");
        }
        if (what < 0 || what > LAST_PROPERTY) {
            throw new IllegalArgumentException("what is not 0 to 4");
        }
        return strings.propertyOf(string, what);
    }

    public int control(int what) throws IllegalArgumentException {
        if (what < 0 || what > LAST_CONTROL) {
            throw new IllegalArgumentException("what is not 0 to 5");
        }
        strings.find(position.lines);
        return strings.summaryOf(what);
    }

    public int prediction() throws IllegalStateException {
        if (stringCount() > MAX_PREDICTED_STRINGS) {
            throw new IllegalStateException("more than 10 strings");
        }
        return strings.predict();
    }

    private int stringCount() {
        strings.find(position.lines);
        return strings.amount;
    }

    // ---- exact results

    public int outcome() throws IllegalStateException {
        if (openLineCount() > MAX_EXACT_LINES) {
            throw new IllegalStateException("more than 12 open lines");
        }
        return solver.bestOf(board.openLines(position.lines));
    }

    public int worth(int line) throws IndexOutOfBoundsException, IllegalStateException {
        if (!board.hasLine(line)) {
            throw new IndexOutOfBoundsException("no such line");
        }
        if (isDrawn(line) || openLineCount() > MAX_EXACT_LINES) {
            throw new IllegalStateException("the line is drawn, or more than 12 lines are open");
        }
        return solver.worthOf(board.openLines(position.lines), line);
    }

    private int openLineCount() {
        return board.lineCount - position.moveCount;
    }

    // ---- symmetry

    public long canonical() {
        return symmetry.lowestCode(position.lines);
    }

    public int symmetries() {
        return symmetry.keepingCount(position.lines);
    }

    public int followers() {
        return symmetry.followerCount(position.lines);
    }

    // ---- styles

    public int advice(int style) throws IllegalArgumentException {
        if (!isStyle(style)) {
            throw new IllegalArgumentException("style is out of range");
        }
        return styles.choose(style, position.lines);
    }

    public int playout(int zero, int one, int what) throws IllegalArgumentException {
        if (!isStyle(zero) || !isStyle(one) || what < 0 || what > 2) {
            throw new IllegalArgumentException("zero, one or what is out of range");
        }
        trial.copyFrom(position);
        int changes = 0;
        int last = NONE;
        for (int i = 0; i < MAX_LINES; i++) {
            int line = styles.choose(trial.mover == 0 ? zero : one, trial.lines);
            if (line == NONE) {
                break;
            }
            last = line;
            if (trial.make(line) == 0) {
                changes++;
            }
        }
        switch (what) {
            case 0: return trial.difference();
            case 1: return changes;
            default: return last;
        }
    }

    public double meanDifference(int games, int seed) throws IllegalArgumentException {
        if (games < 1 || games > MAX_GAMES || seed < 0) {
            throw new IllegalArgumentException("games or seed is out of range");
        }
        long random = seed;
        long sum = 0;
        for (int game = 0; game < games; game++) {
            trial.copyFrom(position);
            random = playRandomly(random);
            sum += trial.difference();
        }
        return (double) sum / games;
    }

    /** Plays the trial position to its end and returns the random number that it ends with. */
    private long playRandomly(long seed) {
        long random = seed;
        for (int i = 0; i < MAX_LINES; i++) {
            long open = board.openLines(trial.lines);
            int openCount = Long.bitCount(open);
            if (openCount == 0) {
                break;
            }
            random = (1103515245L * random + 12345L) & 0x7fffffffL;
            trial.make(memberOf(open, (int) (random / 65536 % openCount)));
        }
        return random;
    }

    // ---- the digest

    public long digest() {
        long hash = 1913;
        for (int what = 0; what <= LAST_COUNT; what++) {
            hash = mix(hash, count(what));
        }
        hash = mix(mix(hash, position.scoreOf(0)), position.scoreOf(1));
        strings.find(position.lines);
        hash = mixStrings(mixBoard(hash));
        hash = mix(mix(hash, canonical()), symmetries());
        for (int style = GREEDY_STYLE; style < EXACT_STYLE; style++) {
            hash = mix(hash, styles.choose(style, position.lines));
        }
        if (openLineCount() <= MAX_DIGEST_LINES) {
            hash = mix(hash, outcome());
        }
        hash = mix(hash, input.length);
        for (int i = 0; i < input.length; i++) {
            hash = mix(hash, input.codeAt(i));
        }
        return hash;
    }

    private long mixBoard(long start) {
        long hash = start;
        for (int line = 0; line < board.lineCount; line++) {
            hash = mix(hash, kind(line));
        }
        for (int move = 0; move < position.moveCount; move++) {
            hash = mix(hash, position.moveAt(move));
        }
        for (int box = 0; box < board.boxCount; box++) {
            hash = mix(mix(hash, position.ownerOf(box)), strings.numberAt(box));
        }
        return hash;
    }

    private long mixStrings(long start) {
        long hash = start;
        for (int number = 0; number < strings.amount; number++) {
            for (int what = 0; what <= LAST_PROPERTY; what++) {
                hash = mix(hash, strings.propertyOf(number, what));
            }
        }
        for (int what = 0; what <= LAST_CONTROL; what++) {
            hash = mix(hash, strings.summaryOf(what));
        }
        return strings.amount <= MAX_PREDICTED_STRINGS ? mix(hash, strings.predict()) : hash;
    }

    private static long mix(long hash, long value) {
        return 31 * hash + value;
    }

    // ---- sets of lines

    private static long bit(int line) {
        return 1L << line;
    }

    private static boolean contains(long set, int line) {
        return (set & bit(line)) != 0;
    }

    private static int lowestOf(long set) {
        return set == 0 ? NONE : Long.bitCount((set & -set) - 1);
    }

    /** The member with this index in ascending order, NONE if there are not so many. */
    private static int memberOf(long set, int index) {
        long rest = set;
        for (int i = 0; i < index; i++) {
            rest &= rest - 1;
        }
        return lowestOf(rest);
    }

    /**
     * Reads and writes rows. Every index is tested here, so that no caller can make the machine
     * throw; an index outside of the row reads as nothing and writes nothing.
     */
    private static final class Rows {
        static int at(int[] row, int index) {
            return index >= 0 && index < row.length ? row[index] : NONE;
        }

        static long at(long[] row, int index) {
            return index >= 0 && index < row.length ? row[index] : 0L;
        }

        static void put(int[] row, int index, int value) {
            if (index >= 0 && index < row.length) {
                row[index] = value;
            }
        }

        static void put(long[] row, int index, long value) {
            if (index >= 0 && index < row.length) {
                row[index] = value;
            }
        }
    }

    /** Which lines there are, which boxes they bound, and what a set of drawn lines means for them. */
    private static final class Board {
        int columns;
        int rows;
        int lineCount;
        int boxCount;
        private final long[] sides = new long[MAX_BOXES];
        private final int[] firstBoxes = new int[MAX_LINES];
        private final int[] secondBoxes = new int[MAX_LINES];

        void setUp(int newColumns, int newRows) {
            columns = newColumns;
            rows = newRows;
            boxCount = columns * rows;
            lineCount = columns * (rows + 1) + (columns + 1) * rows;
            for (int line = 0; line < MAX_LINES; line++) {
                Rows.put(firstBoxes, line, NONE);
                Rows.put(secondBoxes, line, NONE);
            }
            for (int y = 0; y < rows; y++) {
                for (int x = 0; x < columns; x++) {
                    int box = y * columns + x;
                    Rows.put(sides, box, 0L);
                    addSide(box, numberOf(false, x, y));
                    addSide(box, numberOf(false, x, y + 1));
                    addSide(box, numberOf(true, x, y));
                    addSide(box, numberOf(true, x + 1, y));
                }
            }
        }

        private void addSide(int box, int line) {
            Rows.put(sides, box, sidesOf(box) | bit(line));
            if (firstBox(line) == NONE) {
                Rows.put(firstBoxes, line, box);
            } else {
                Rows.put(secondBoxes, line, box);
            }
        }

        int numberOf(boolean vertical, int x, int y) {
            int width = vertical ? columns + 1 : columns;
            int height = vertical ? rows : rows + 1;
            if (x < 0 || x >= width || y < 0 || y >= height) {
                return NONE;
            }
            int before = vertical ? columns * (rows + 1) : 0;
            return before + y * width + x;
        }

        boolean hasLine(int line) {
            return line >= 0 && line < lineCount;
        }

        boolean hasBox(int box) {
            return box >= 0 && box < boxCount;
        }

        int cornerCount() {
            return (columns + 1) * (rows + 1);
        }

        int firstBox(int line) {
            return Rows.at(firstBoxes, line);
        }

        /** The other box of a line, NONE if the line is on the border. */
        int secondBox(int line) {
            return Rows.at(secondBoxes, line);
        }

        long sidesOf(int box) {
            return Rows.at(sides, box);
        }

        long openAround(long drawnLines, int box) {
            return Rows.at(sides, box) & ~drawnLines;
        }

        boolean isComplete(long drawnLines, int box) {
            return hasBox(box) && openAround(drawnLines, box) == 0;
        }

        long openLines(long drawnLines) {
            return (bit(lineCount) - 1) & ~drawnLines;
        }

        int completeBoxes(long drawnLines) {
            int complete = 0;
            for (int box = 0; box < boxCount; box++) {
                if (openAround(drawnLines, box) == 0) {
                    complete++;
                }
            }
            return complete;
        }

        /** The open lines around all boxes that have just so many open sides. */
        long openAroundBoxesWith(long drawnLines, int openSideCount) {
            long lines = 0;
            for (int box = 0; box < boxCount; box++) {
                long open = openAround(drawnLines, box);
                if (Long.bitCount(open) == openSideCount) {
                    lines |= open;
                }
            }
            return lines;
        }

        long takingLines(long drawnLines) {
            return openAroundBoxesWith(drawnLines, 1);
        }

        long safeLines(long drawnLines) {
            long unsafe = openAroundBoxesWith(drawnLines, 1) | openAroundBoxesWith(drawnLines, 2);
            return openLines(drawnLines) & ~unsafe;
        }

        long givingLines(long drawnLines) {
            return openAroundBoxesWith(drawnLines, 2) & ~openAroundBoxesWith(drawnLines, 1);
        }

        /**
         * The run of a position. The lines are taken box by box instead of the lowest one first:
         * a taking line stays taking until it is drawn, so every order completes the same boxes.
         */
        int runOf(long drawnLines) {
            long lines = drawnLines;
            boolean found = true;
            for (int pass = 0; found && pass < MAX_BOXES; pass++) {
                found = false;
                for (int box = 0; box < boxCount; box++) {
                    long open = openAround(lines, box);
                    if (Long.bitCount(open) == 1) {
                        lines |= open;
                        found = true;
                    }
                }
            }
            return completeBoxes(lines) - completeBoxes(drawnLines);
        }

        /** Whether some line would complete two boxes at once. */
        boolean hasDoubleTaking(long drawnLines) {
            long once = 0;
            for (int box = 0; box < boxCount; box++) {
                long open = openAround(drawnLines, box);
                if (Long.bitCount(open) == 1) {
                    if ((once & open) != 0) {
                        return true;
                    }
                    once |= open;
                }
            }
            return false;
        }
    }

    /** A position: the drawn lines in their order, who is to move, and whose the boxes are. */
    private static final class Position {
        long lines;
        int moveCount;
        int mover;
        private final Board board;
        private final int[] moves = new int[MAX_LINES];
        private final int[] owners = new int[MAX_BOXES];

        Position(Board board) {
            this.board = board;
        }

        void clear() {
            lines = 0;
            moveCount = 0;
            mover = 0;
            for (int box = 0; box < MAX_BOXES; box++) {
                Rows.put(owners, box, NONE);
            }
        }

        void copyFrom(Position other) {
            lines = other.lines;
            moveCount = other.moveCount;
            mover = other.mover;
            for (int move = 0; move < moveCount; move++) {
                Rows.put(moves, move, other.moveAt(move));
            }
            for (int box = 0; box < MAX_BOXES; box++) {
                Rows.put(owners, box, other.ownerOf(box));
            }
        }

        /** Draws an open line and returns how many boxes it completes. */
        int make(int line) {
            lines |= bit(line);
            Rows.put(moves, moveCount, line);
            moveCount++;
            int completed = claim(board.firstBox(line)) + claim(board.secondBox(line));
            if (completed == 0) {
                mover = 1 - mover;
            }
            return completed;
        }

        private int claim(int box) {
            if (!board.isComplete(lines, box)) {
                return 0;
            }
            Rows.put(owners, box, mover);
            return 1;
        }

        /** Undoes the latest move and returns its line. */
        int takeBack() {
            moveCount--;
            int line = moveAt(moveCount);
            int released = release(board.firstBox(line)) + release(board.secondBox(line));
            lines &= ~bit(line);
            // who completes a box moves again, so then the one to move is the one who drew
            if (released == 0) {
                mover = 1 - mover;
            }
            return line;
        }

        private int release(int box) {
            if (!board.isComplete(lines, box)) {
                return 0;
            }
            Rows.put(owners, box, NONE);
            return 1;
        }

        int moveAt(int move) {
            return Rows.at(moves, move);
        }

        int ownerOf(int box) {
            return Rows.at(owners, box);
        }

        int scoreOf(int player) {
            int boxes = 0;
            for (int box = 0; box < board.boxCount; box++) {
                if (ownerOf(box) == player) {
                    boxes++;
                }
            }
            return boxes;
        }

        int difference() {
            return scoreOf(0) - scoreOf(1);
        }
    }

    /** The strings of a position, and what is told of them. */
    private static final class Strings {
        // what keeping control of a string costs, by its kind; in a short chain control can't be kept
        private static final int SHORT_CHAIN = 0;
        private static final int LONG_CHAIN = 4;
        private static final int LOOP = 8;

        int amount;
        private int thickBoxes;
        private long thickLines;
        private long seenLines;
        private boolean known;
        private boolean predicted;
        private int predictedValue;
        private final Board board;
        private final long[] openAround = new long[MAX_BOXES];
        private final int[] numbers = new int[MAX_BOXES];
        private final int[] sizes = new int[MAX_BOXES];
        private final int[] opens = new int[MAX_BOXES];
        private final int[] discounts = new int[MAX_BOXES];
        private final long[] lines = new long[MAX_BOXES];
        private final long[] sharedLines = new long[MAX_BOXES];
        private final int[] values = new int[1 << MAX_PREDICTED_STRINGS];

        Strings(Board board) {
            this.board = board;
        }

        void forget() {
            known = false;
        }

        void find(long drawnLines) {
            if (known && seenLines == drawnLines) {
                return;
            }
            known = true;
            predicted = false;
            seenLines = drawnLines;
            look(drawnLines);
            amount = 0;
            for (int box = 0; box < board.boxCount; box++) {
                if (isFree(box)) {
                    collect(box);
                }
            }
        }

        /** Notes the open lines around each box, and those around boxes that are not thin. */
        private void look(long drawnLines) {
            thickBoxes = 0;
            thickLines = 0;
            for (int box = 0; box < board.boxCount; box++) {
                long open = board.openAround(drawnLines, box);
                Rows.put(openAround, box, open);
                Rows.put(numbers, box, NONE);
                if (Long.bitCount(open) > 2) {
                    thickBoxes++;
                    thickLines |= open;
                }
            }
        }

        /** Whether a box is thin and in no string yet. */
        private boolean isFree(int box) {
            int open = Long.bitCount(Rows.at(openAround, box));
            return (open == 1 || open == 2) && Rows.at(numbers, box) == NONE;
        }

        /** Makes the next string of all thin boxes that can be reached from this one. */
        private void collect(int start) {
            int string = amount;
            amount++;
            Rows.put(sizes, string, 0);
            Rows.put(opens, string, 0);
            Rows.put(lines, string, 0L);
            Rows.put(sharedLines, string, 0L);
            join(start, string);
            boolean grown = true;
            for (int pass = 0; grown && pass < MAX_BOXES; pass++) {
                grown = false;
                for (int box = 0; box < board.boxCount; box++) {
                    if (isFree(box) && (Rows.at(openAround, box) & Rows.at(lines, string)) != 0) {
                        join(box, string);
                        grown = true;
                    }
                }
            }
            Rows.put(discounts, string, discountOf(string));
        }

        private void join(int box, int string) {
            long open = Rows.at(openAround, box);
            long before = Rows.at(lines, string);
            Rows.put(numbers, box, string);
            Rows.put(sizes, string, Rows.at(sizes, string) + 1);
            if (Long.bitCount(open) == 1) {
                Rows.put(opens, string, 1);
            }
            Rows.put(sharedLines, string, Rows.at(sharedLines, string) | (open & before));
            Rows.put(lines, string, before | open);
        }

        private int discountOf(int string) {
            if (Rows.at(opens, string) == 0 && Rows.at(lines, string) == Rows.at(sharedLines, string)) {
                return LOOP;
            }
            return Rows.at(sizes, string) >= 3 ? LONG_CHAIN : SHORT_CHAIN;
        }

        private boolean isOpen(int string) {
            return Rows.at(opens, string) == 1;
        }

        int numberAt(int box) {
            return Rows.at(numbers, box);
        }

        int propertyOf(int string, int what) {
            switch (what) {
                case 0: return Rows.at(sizes, string);
                case 1: return Rows.at(discounts, string) == LOOP ? 1 : 0;
                case 2: return Rows.at(opens, string);
                case 3: return Long.bitCount(Rows.at(lines, string));
                default: return Long.bitCount(Rows.at(lines, string) & thickLines);
            }
        }

        /** The document's control numbers. */
        int summaryOf(int what) {
            switch (what) {
                case 0: return countWith(LONG_CHAIN);
                case 1: return countWith(LOOP);
                case 2: return thickBoxes;
                case 3: return isAllClosed() ? 1 : 0;
                case 4: return controlledValue();
                default: return (board.cornerCount() + countWith(LONG_CHAIN)) % 2;
            }
        }

        private int countWith(int discount) {
            int found = 0;
            for (int string = 0; string < amount; string++) {
                if (Rows.at(discounts, string) == discount) {
                    found++;
                }
            }
            return found;
        }

        /** Whether all boxes are complete or thin, and no string is open. */
        private boolean isAllClosed() {
            for (int string = 0; string < amount; string++) {
                if (isOpen(string)) {
                    return false;
                }
            }
            return thickBoxes == 0;
        }

        private int controlledValue() {
            int value = 0;
            for (int string = 0; string < amount; string++) {
                int discount = Rows.at(discounts, string);
                if (discount != SHORT_CHAIN) {
                    value += Rows.at(sizes, string) - discount;
                }
            }
            return value;
        }

        /** The prediction for all strings, of which there are at most 10. */
        int predict() {
            if (!predicted) {
                predictedValue = predictAll();
                predicted = true;
            }
            return predictedValue;
        }

        private int predictAll() {
            int sets = 1 << Math.min(amount, MAX_PREDICTED_STRINGS);
            Rows.put(values, 0, 0);
            for (int set = 1; set < sets; set++) {
                Rows.put(values, set, predictSet(set));
            }
            return Rows.at(values, sets - 1);
        }

        /** The prediction for a set of strings, when those for all smaller sets stand in values. */
        private int predictSet(int set) {
            int least = BEYOND_ANY_DIFFERENCE;
            for (int string = 0; string < amount; string++) {
                int member = 1 << string;
                if ((set & member) != 0) {
                    least = Math.min(least, valueAfter(string, Rows.at(values, set & ~member)));
                }
            }
            return least;
        }

        /** The document's w of a string, where rest is the prediction for the other strings. */
        private int valueAfter(int string, int rest) {
            int size = Rows.at(sizes, string);
            int discount = Rows.at(discounts, string);
            if (discount == SHORT_CHAIN) {
                return size - rest;
            }
            return Math.max(size - rest, size - discount + rest);
        }
    }

    /**
     * Exact results. All sets of at most 12 open lines are solved at once, smaller sets first;
     * what was solved serves every later position whose open lines are among these.
     */
    private static final class Solver {
        private final Board board;
        private final int[] lines = new int[MAX_EXACT_LINES];
        private final int[] firstBoxLines = new int[MAX_EXACT_LINES];
        private final int[] secondBoxLines = new int[MAX_EXACT_LINES];
        private final int[] best = new int[1 << MAX_EXACT_LINES];
        private int amount;
        private long solvedLines;
        private boolean known;

        Solver(Board board) {
            this.board = board;
        }

        void forget() {
            known = false;
        }

        /** The outcome with these open lines, 0 if there is none. */
        int bestOf(long open) {
            solve(open);
            return Rows.at(best, indexSetOf(open));
        }

        int worthOf(long open, int line) {
            solve(open);
            int set = indexSetOf(open);
            for (int index = 0; index < amount; index++) {
                if (lineAt(index) == line) {
                    return worthInSet(set, index);
                }
            }
            return 0;
        }

        /** The lowest open line with the greatest worth, NONE if there is no open line. */
        int bestLine(long open) {
            solve(open);
            int set = indexSetOf(open);
            for (int index = 0; index < amount; index++) {
                if ((set & (1 << index)) != 0 && worthInSet(set, index) == Rows.at(best, set)) {
                    return lineAt(index);
                }
            }
            return NONE;
        }

        private void solve(long open) {
            if (known && (open & ~solvedLines) == 0) {
                return;
            }
            known = true;
            solvedLines = open;
            amount = Math.min(Long.bitCount(open), MAX_EXACT_LINES);
            for (int index = 0; index < amount; index++) {
                Rows.put(lines, index, memberOf(open, index));
            }
            for (int index = 0; index < amount; index++) {
                Rows.put(firstBoxLines, index, indexSetOf(board.sidesOf(board.firstBox(lineAt(index)))));
                Rows.put(secondBoxLines, index, indexSetOf(board.sidesOf(board.secondBox(lineAt(index)))));
            }
            Rows.put(best, 0, 0);
            for (int set = 1; set < (1 << amount); set++) {
                Rows.put(best, set, greatestWorth(set));
            }
        }

        private int lineAt(int index) {
            return Rows.at(lines, index);
        }

        /** Those of the solved lines that are in a set of lines, as a set of their indices. */
        private int indexSetOf(long set) {
            int indices = 0;
            for (int index = 0; index < amount; index++) {
                if (contains(set, lineAt(index))) {
                    indices |= 1 << index;
                }
            }
            return indices;
        }

        private int greatestWorth(int set) {
            int greatest = -BEYOND_ANY_DIFFERENCE;
            for (int index = 0; index < amount; index++) {
                if ((set & (1 << index)) != 0) {
                    greatest = Math.max(greatest, worthInSet(set, index));
                }
            }
            return greatest;
        }

        private int worthInSet(int set, int index) {
            int member = 1 << index;
            int completed = 0;
            if ((Rows.at(firstBoxLines, index) & set) == member) {
                completed++;
            }
            if ((Rows.at(secondBoxLines, index) & set) == member) {
                completed++;
            }
            int rest = Rows.at(best, set & ~member);
            return completed > 0 ? completed + rest : -rest;
        }
    }

    /** The symmetries of the board, each by the lines to which it takes the lines. */
    private static final class Symmetry {
        private static final int LEFT_RIGHT = 1;
        private static final int TOP_BOTTOM = 2;
        private static final int COLUMNS_ROWS = 4;

        private final Board board;
        private final int[] images = new int[MAX_SYMMETRIES * MAX_LINES];
        private final long[] codes = new long[MAX_SYMMETRIES];
        private final long[] found = new long[MAX_LINES];
        private int amount;

        Symmetry(Board board) {
            this.board = board;
        }

        void setUp() {
            amount = board.columns == board.rows ? MAX_SYMMETRIES : COLUMNS_ROWS;
            for (int symmetry = 0; symmetry < amount; symmetry++) {
                for (int y = 0; y <= board.rows; y++) {
                    for (int x = 0; x <= board.columns; x++) {
                        setImage(symmetry, false, x, y);
                        setImage(symmetry, true, x, y);
                    }
                }
            }
        }

        private void setImage(int symmetry, boolean vertical, int x, int y) {
            int line = board.numberOf(vertical, x, y);
            if (line == NONE) {
                return;
            }
            int lastX = vertical ? board.columns : board.columns - 1;
            int lastY = vertical ? board.rows - 1 : board.rows;
            int toX = (symmetry & LEFT_RIGHT) != 0 ? lastX - x : x;
            int toY = (symmetry & TOP_BOTTOM) != 0 ? lastY - y : y;
            int image = (symmetry & COLUMNS_ROWS) != 0
                    ? board.numberOf(!vertical, toY, toX)
                    : board.numberOf(vertical, toX, toY);
            Rows.put(images, symmetry * MAX_LINES + line, image);
        }

        private int imageOf(int symmetry, int line) {
            return Rows.at(images, symmetry * MAX_LINES + line);
        }

        private long codeOf(int symmetry) {
            return Rows.at(codes, symmetry);
        }

        /** Finds the code to which each symmetry takes the lines. */
        private void encode(long drawnLines) {
            for (int symmetry = 0; symmetry < amount; symmetry++) {
                long code = 0;
                for (int line = 0; line < board.lineCount; line++) {
                    if (contains(drawnLines, line)) {
                        code |= bit(imageOf(symmetry, line));
                    }
                }
                Rows.put(codes, symmetry, code);
            }
        }

        long lowestCode(long drawnLines) {
            encode(drawnLines);
            long lowest = codeOf(0);
            for (int symmetry = 1; symmetry < amount; symmetry++) {
                lowest = Math.min(lowest, codeOf(symmetry));
            }
            return lowest;
        }

        /** How many symmetries take the lines to themselves. */
        int keepingCount(long drawnLines) {
            encode(drawnLines);
            int keeping = 0;
            for (int symmetry = 0; symmetry < amount; symmetry++) {
                if (codeOf(symmetry) == drawnLines) {
                    keeping++;
                }
            }
            return keeping;
        }

        int followerCount(long drawnLines) {
            encode(drawnLines);
            int different = 0;
            for (int line = 0; line < board.lineCount; line++) {
                if (!contains(drawnLines, line)) {
                    long code = lowestCodeBehind(line);
                    if (!isFound(code, different)) {
                        Rows.put(found, different, code);
                        different++;
                    }
                }
            }
            return different;
        }

        /** The canonical code when one more line is drawn than in the codes. */
        private long lowestCodeBehind(int line) {
            long lowest = codeOf(0) | bit(imageOf(0, line));
            for (int symmetry = 1; symmetry < amount; symmetry++) {
                lowest = Math.min(lowest, codeOf(symmetry) | bit(imageOf(symmetry, line)));
            }
            return lowest;
        }

        private boolean isFound(long code, int foundCount) {
            for (int i = 0; i < foundCount; i++) {
                if (Rows.at(found, i) == code) {
                    return true;
                }
            }
            return false;
        }
    }

    /** The styles: each chooses an open line by the drawn lines, NONE if there is no open line. */
    private static final class Styles {
        private final Board board;
        private final Solver solver;

        Styles(Board board, Solver solver) {
            this.board = board;
            this.solver = solver;
        }

        int choose(int style, long drawnLines) {
            long open = board.openLines(drawnLines);
            if (style == EXACT_STYLE && Long.bitCount(open) <= MAX_EXACT_LINES) {
                return solver.bestLine(open);
            }
            long taking = board.takingLines(drawnLines);
            long safe = board.safeLines(drawnLines);
            if (style != GREEDY_STYLE && taking != 0 && safe == 0) {
                int keeping = keepingLine(drawnLines, open & ~taking);
                if (keeping != NONE) {
                    return keeping;
                }
            }
            if (taking != 0) {
                return lowestOf(taking);
            }
            return safe != 0 ? lowestOf(safe) : cheapestLine(drawnLines);
        }

        private int cheapestLine(long drawnLines) {
            int cheapest = NONE;
            int lowestPrice = BEYOND_ANY_DIFFERENCE;
            for (int line = 0; line < board.lineCount; line++) {
                if (!contains(drawnLines, line)) {
                    int linePrice = board.runOf(drawnLines | bit(line));
                    if (linePrice < lowestPrice) {
                        lowestPrice = linePrice;
                        cheapest = line;
                    }
                }
            }
            return cheapest;
        }

        /** The lowest of these giving lines that is keeping, NONE if there is none; no line is safe. */
        private int keepingLine(long drawnLines, long giving) {
            if (board.boxCount - board.completeBoxes(drawnLines) < 5 || board.runOf(drawnLines) != 2) {
                return NONE;
            }
            for (int line = 0; line < board.lineCount; line++) {
                if (contains(giving, line) && board.hasDoubleTaking(drawnLines | bit(line))) {
                    return line;
                }
            }
            return NONE;
        }
    }

    /** The input buffer. A line takes three characters and a comma, so places repeat every four. */
    private static final class Input {
        static final int WIDTH = 4;

        int length;
        private final Board board;
        private final int[] codes = new int[MAX_TEXT];

        Input(Board board) {
            this.board = board;
        }

        void add(int code) {
            Rows.put(codes, length, code);
            length++;
        }

        int codeAt(int index) {
            return Rows.at(codes, index);
        }

        int firstWrong() {
            for (int index = 0; index < length; index++) {
                if (!isAllowed(index)) {
                    return index;
                }
            }
            return length;
        }

        private boolean isAllowed(int index) {
            int code = codeAt(index);
            switch (index % WIDTH) {
                case 0: return code == 'h' || code == 'v';
                // every x that occurs occurs with y 0
                case 1: return board.numberOf(isVerticalAt(index - 1), digitAt(index), 0) != NONE;
                case 2: return lineAt(index - 2) != NONE;
                default: return code == ',';
            }
        }

        private boolean isVerticalAt(int index) {
            return Rows.at(codes, index) == 'v';
        }

        /** The digit's value; for another character a number below 0 or above 9, which no line has. */
        private int digitAt(int index) {
            return Rows.at(codes, index) - '0';
        }

        /** The line that is written from this index on, NONE if there is no such line. */
        int lineAt(int index) {
            return board.numberOf(isVerticalAt(index), digitAt(index + 1), digitAt(index + 2));
        }

        boolean isComplete() {
            return length % WIDTH == WIDTH - 1 && firstWrong() == length;
        }

        /** Whether all lines of the complete text are different and not among the drawn ones. */
        boolean canBeDrawn(long drawnLines) {
            long lines = drawnLines;
            for (int index = 0; index < length; index += WIDTH) {
                int line = lineAt(index);
                if (contains(lines, line)) {
                    return false;
                }
                lines |= bit(line);
            }
            return true;
        }
    }
}
