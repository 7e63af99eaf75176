/** The boundary cases of promises 10 to 18; each test has its sentence of the document above it. */
public final class PositionEdgesTest {
    private static final int[] EXTREMES = {-1, Integer.MIN_VALUE, Integer.MAX_VALUE};

    private static void counts(String name, BoxesGame game, int... due) {
        for (int what = 0; what <= 10; what++) {
            Check.same("P10 count(" + what + ") " + name, game.count(what), due[what]);
        }
    }

    /** "what: 0 for the number of columns, .. 10 for the number of strings", with no line drawn */
    private static void countsOfTheEmpty() {
        for (int[] board : Games.BOARDS) {
            int columns = board[0];
            int rows = board[1];
            int lines = columns * (rows + 1) + (columns + 1) * rows;
            counts("with no line", Games.on(columns, rows), columns, rows, lines, 0, 0, 0, 0, lines, 0, 0, 0);
        }
    }

    /** The same, with every line drawn. */
    private static void countsOfTheFull() {
        for (int[] board : Games.BOARDS) {
            BoxesGame game = Games.allBut(board[0], board[1], 0);
            int last = game.count(5);
            int lines = game.count(2);
            counts("with one line open", game, board[0], board[1], lines, lines - 1, board[0] * board[1] - 1, last,
                1, 0, 0, 1, 1);
            game.draw(0);
            counts("with every line", game, board[0], board[1], lines, lines, board[0] * board[1], last,
                0, 0, 0, 0, 0);
        }
    }

    /** "IllegalArgumentException if what is not 0 to 10" */
    private static void whatOfCount() {
        for (int what : new int[] {-1, 11, 12, Integer.MIN_VALUE, Integer.MAX_VALUE}) {
            Twins.refused("P10 count(" + what + ")", Games::middle, IllegalArgumentException.class, g -> g.count(what));
        }
        counts("in the middle", Games.middle(), 3, 2, 17, 8, 1, 1, 1, 6, 2, 1, 2);
    }

    /** "IllegalArgumentException if player is not 0 or 1" */
    private static void players() {
        Check.same("P11 score(0)", Games.middle().score(0), 0);
        Check.same("P11 score(1)", Games.middle().score(1), 1);
        for (int player : new int[] {-1, 2, 3, Integer.MIN_VALUE, Integer.MAX_VALUE}) {
            Twins.refused("P11 score(" + player + ")", Games::middle, IllegalArgumentException.class,
                g -> g.score(player));
        }
    }

    /** "The score of a player is the number of boxes that belong to the player.", none and all of them */
    private static void scores() {
        for (int[] board : Games.BOARDS) {
            BoxesGame game = Games.on(board[0], board[1]);
            Check.same("P11 no score of 0", game.score(0), 0);
            Check.same("P11 no score of 1", game.score(1), 0);
            game.follow(2, 40);
            Check.same("P11 all boxes", game.score(0) + game.score(1), board[0] * board[1]);
        }
        // a ring of four boxes is opened by player 0, and player 1 takes all
        BoxesGame ring = Games.on(2, 2, 0, 1, 4, 5, 6, 8, 9, 11, 2);
        ring.follow(0, 40);
        Check.same("P11 no box for 0", ring.score(0), 0);
        Check.same("P11 all boxes for 1", ring.score(1), 4);
    }

    /** "First the horizontal lines, by y, those of the same y by x; then the vertical lines, by y, .. by x." */
    private static void firstAndLastLines() {
        for (int[] board : Games.BOARDS) {
            int columns = board[0];
            int rows = board[1];
            BoxesGame game = Games.on(columns, rows);
            Check.same("P12 first horizontal line", game.line(false, 0, 0), 0);
            Check.same("P12 last one of the first row", game.line(false, columns - 1, 0), columns - 1);
            Check.same("P12 first one of the next row", game.line(false, 0, 1), columns);
            Check.same("P12 last horizontal line", game.line(false, columns - 1, rows), columns * (rows + 1) - 1);
            Check.same("P12 first vertical line", game.line(true, 0, 0), columns * (rows + 1));
            Check.same("P12 last one of its row", game.line(true, columns, 0), columns * (rows + 1) + columns);
            Check.same("P12 last vertical line", game.line(true, columns, rows - 1), game.count(2) - 1);
        }
    }

    /** "IndexOutOfBoundsException if there is no such line" */
    private static void linesBeyond() {
        for (int[] board : Games.BOARDS) {
            int columns = board[0];
            int rows = board[1];
            noLine(board, false, columns, 0);
            noLine(board, false, columns, rows);
            noLine(board, false, columns - 1, rows + 1);
            noLine(board, false, 0, rows + 1);
            noLine(board, true, columns + 1, 0);
            noLine(board, true, columns + 1, rows - 1);
            noLine(board, true, columns, rows);
            noLine(board, true, 0, rows);
            for (int wrong : EXTREMES) {
                noLine(board, false, wrong, 0);
                noLine(board, false, 0, wrong);
                noLine(board, true, wrong, 0);
                noLine(board, true, 0, wrong);
                noLine(board, true, wrong, wrong);
            }
        }
    }

    private static void noLine(int[] board, boolean vertical, int x, int y) {
        Twins.refused("P12 line(" + vertical + "," + x + "," + y + ") on " + board[0] + " x " + board[1],
            () -> Games.on(board[0], board[1], 2), IndexOutOfBoundsException.class, g -> g.line(vertical, x, y));
    }

    /** "for y equal to the number of rows it is below the box in column x of the last row" */
    private static void belowTheLastRow() {
        for (int[] board : Games.BOARDS) {
            for (int x = 0; x < board[0]; x++) {
                BoxesGame game = Games.on(board[0], board[1]);
                game.draw(game.line(false, x, board[1]));
                sidesButOne(game, (board[1] - 1) * board[0] + x);
            }
        }
    }

    /** "for x equal to the number of columns it is to the right of the last box of row y" */
    private static void rightOfTheLastColumn() {
        for (int[] board : Games.BOARDS) {
            for (int y = 0; y < board[1]; y++) {
                BoxesGame game = Games.on(board[0], board[1]);
                game.draw(game.line(true, board[0], y));
                sidesButOne(game, y * board[0] + board[0] - 1);
            }
        }
    }

    private static void sidesButOne(BoxesGame game, int due) {
        for (int box = 0; box < game.count(0) * game.count(1); box++) {
            Check.same("P17 open sides of box " + box, game.openSides(box), box == due ? 3 : 4);
        }
    }

    /** "Each box has four sides, which are lines; neighboring boxes share a line." */
    private static void fourSides() {
        for (int[] board : Games.BOARDS) {
            for (int box = 0; box < board[0] * board[1]; box++) {
                BoxesGame game = Games.on(board[0], board[1]);
                int x = box % board[0];
                int y = box / board[0];
                int[] sides = {game.line(false, x, y), game.line(false, x, y + 1), game.line(true, x, y),
                    game.line(true, x + 1, y)};
                for (int side = 0; side < 4; side++) {
                    Check.same("P17 open sides, drawn are " + side, game.openSides(box), 4 - side);
                    Check.same("P16 owner, drawn are " + side, game.owner(box), -1);
                    Check.same("P3 draw of side " + side, game.draw(sides[side]), side == 3 ? 1 : 0);
                }
                Check.same("P17 no open side", game.openSides(box), 0);
                Check.same("P16 the owner", game.owner(box), 1);
                Check.same("P10 the only complete box", game.count(4), 1);
            }
        }
    }

    /** "IndexOutOfBoundsException if the line does not exist" */
    private static void linesOfKindAndPrice() {
        for (int[] board : Games.BOARDS) {
            BoxesGame game = Games.on(board[0], board[1], 1);
            int lines = game.count(2);
            int due = lines == 4 ? 3 : 2;
            Check.same("P13 kind(0)", Check.answer(() -> game.kind(0)), 2);
            Check.same("P13 kind of the last line", Check.answer(() -> game.kind(lines - 1)), 2);
            Check.same("P14 price(0)", game.price(0), 0);
            Check.same("P14 price of the last line", game.price(lines - 1), 0);
            game.draw(0);
            Check.same("P13 kind of the last line now", game.kind(lines - 1), due);
            for (int line : new int[] {-1, lines, lines + 1, Integer.MIN_VALUE, Integer.MAX_VALUE}) {
                Twins.refused("P13 kind(" + line + ")", () -> Games.on(board[0], board[1], 1),
                    IndexOutOfBoundsException.class, g -> g.kind(line));
                Twins.refused("P14 price(" + line + ")", () -> Games.on(board[0], board[1], 1),
                    IndexOutOfBoundsException.class, g -> g.price(line));
            }
        }
    }

    private static void kind(String name, int due, int... lines) {
        Check.same("P13 kind of " + name, Games.on(3, 3, lines).kind(17), due);
    }

    /**
     * "An open line is taking if it completes a box when it is drawn. It is safe if it is not taking, and
     * no box that it is a side of has exactly one open side when it is drawn. All other open lines are giving."
     */
    private static void kindsByOpenSides() {
        // line 17 is between box 3 (above 3, below 6, left 16) and box 4 (above 4, below 7, right 18)
        kind("4 and 4", 2);
        kind("3 and 4", 2, 3);
        kind("3 and 3", 2, 3, 4);
        kind("2 and 4", 3, 3, 6);
        kind("4 and 2", 3, 4, 7);
        kind("3 and 2", 3, 16, 4, 18);
        kind("2 and 2", 3, 3, 6, 4, 7);
        kind("1 and 4", 1, 3, 6, 16);
        kind("4 and 1", 1, 4, 7, 18);
        kind("1 and 2", 1, 3, 6, 16, 4, 7);
        kind("1 and 1", 1, 3, 6, 16, 4, 7, 18);
        kind("itself drawn", 0, 17);
        // line 16 is on the border
        Check.same("P13 kind on the border, 4", Games.on(3, 3).kind(16), 2);
        Check.same("P13 kind on the border, 3", Games.on(3, 3, 3).kind(16), 2);
        Check.same("P13 kind on the border, 2", Games.on(3, 3, 3, 6).kind(16), 3);
        Check.same("P13 kind on the border, 1", Games.on(3, 3, 3, 6, 17).kind(16), 1);
    }

    /** "The run of a position is the number of boxes that are completed if, again and again, .. as long as there is one." */
    private static void runs() {
        Check.same("P10 run of none", Games.on(4, 4).count(9), 0);
        Check.same("P10 run at the end", Games.full(4, 4).count(9), 0);
        Check.same("P10 run of one", Games.allBut(4, 4, 0).count(9), 1);
        Check.same("P10 run of two by one line", Games.allBut(4, 4, 5).count(9), 2);
        // all inner lines are open, and box 15 can be taken; after it nothing can
        Check.same("P10 run that ends", Games.on(4, 4, 19, 39, 38).count(9), 1);
        // all sixteen boxes are one chain from box 0 to box 12, where it is opened
        BoxesGame snake = Games.on(4, 4, 1, 2, 3, 17, 18, 19, 20, 25, 30, 35, 24, 29, 34, 39, 4, 5, 6, 9, 10, 11,
            12, 13, 14);
        Check.same("P10 run of a closed chain", snake.count(9), 0);
        Check.same("P14 price of its end", snake.price(16), 16);
        snake.draw(16);
        Check.same("P10 run of all boxes", snake.count(9), 16);
        Check.same("P14 price of its other end now", snake.price(0), 16);
    }

    /** "The price of an open line is the run of the position behind it (the boxes that the line itself completes do not count)." */
    private static void prices() {
        Check.same("P14 price of a last line", Games.allBut(4, 4, 0).price(0), 0);
        Check.same("P14 price of a last line for two", Games.allBut(4, 4, 39 - 1).price(38), 0);
        Check.same("P14 price of the first line of two", Games.allBut(2, 1, 4, 6).price(4), 1);
        Check.same("P14 price of the line beside a line for two", Games.allBut(2, 1, 4, 5).price(4), 2);
        Check.same("P14 price of a line for two of three", Games.allBut(3, 1, 7, 9).price(7), 1);
        Check.same("P14 price at first", Games.on(1, 1).price(3), 0);
        Check.same("P14 price of the third side", Games.on(1, 1, 0, 1).price(3), 1);
    }

    /** "IllegalStateException if the line is drawn" */
    private static void priceOfDrawn() {
        for (int[] board : Games.BOARDS) {
            int lines = Games.on(board[0], board[1]).count(2);
            for (int line : new int[] {0, lines - 1}) {
                Twins.refused("P14 price(" + line + ") of a drawn line", () -> Games.on(board[0], board[1], line),
                    IllegalStateException.class, g -> g.price(line));
                Twins.refused("P14 price(" + line + ") at the end", () -> Games.full(board[0], board[1]),
                    IllegalStateException.class, g -> g.price(line));
            }
        }
    }

    /** "IndexOutOfBoundsException if there is no such move" */
    private static void moves() {
        for (int[] board : Games.BOARDS) {
            BoxesGame game = Games.full(board[0], board[1]);
            int lines = game.count(2);
            Check.same("P15 drawn(0)", game.drawn(0), 0);
            Check.same("P15 drawn of the last move", game.drawn(lines - 1), lines - 1);
            for (int move : new int[] {-1, lines, 40, Integer.MIN_VALUE, Integer.MAX_VALUE}) {
                Twins.refused("P15 drawn(" + move + ") of all", () -> Games.full(board[0], board[1]),
                    IndexOutOfBoundsException.class, g -> g.drawn(move));
            }
            Twins.refused("P15 drawn(0) of none", () -> Games.on(board[0], board[1]),
                IndexOutOfBoundsException.class, g -> g.drawn(0));
            Twins.refused("P15 drawn(1) of one", () -> Games.on(board[0], board[1], 2),
                IndexOutOfBoundsException.class, g -> g.drawn(1));
        }
    }

    /** "the index of the move, from 0 for the first one of those that were not undone" */
    private static void movesNotUndone() {
        BoxesGame game = Games.on(4, 4, 39, 20, 0);
        game.undo();
        Check.same("P15 the last one that was not undone", game.drawn(1), 20);
        Twins.refused("P15 the one that was undone", () -> {
            BoxesGame undone = Games.on(4, 4, 39, 20, 0);
            undone.undo();
            return undone;
        }, IndexOutOfBoundsException.class, g -> g.drawn(2));
        game.draw(5);
        Check.same("P15 the one that was drawn then", game.drawn(2), 5);
        Check.same("P15 the first one", game.drawn(0), 39);
    }

    /** "IndexOutOfBoundsException if the box does not exist" */
    private static void boxes() {
        for (int[] board : Games.BOARDS) {
            int boxes = board[0] * board[1];
            BoxesGame game = Games.on(board[0], board[1]);
            for (int box : new int[] {0, boxes - 1}) {
                Check.same("P16 owner(" + box + ")", game.owner(box), -1);
                Check.same("P17 openSides(" + box + ")", game.openSides(box), 4);
                Check.same("P19 stringOf(" + box + ")", game.stringOf(box), -1);
            }
            for (int box : new int[] {-1, boxes, boxes + 1, Integer.MIN_VALUE, Integer.MAX_VALUE}) {
                Twins.Maker maker = () -> Games.on(board[0], board[1], 0, 1);
                Twins.refused("P16 owner(" + box + ")", maker, IndexOutOfBoundsException.class, g -> g.owner(box));
                Twins.refused("P17 openSides(" + box + ")", maker, IndexOutOfBoundsException.class,
                    g -> g.openSides(box));
                Twins.refused("P19 stringOf(" + box + ")", maker, IndexOutOfBoundsException.class,
                    g -> g.stringOf(box));
            }
        }
    }

    /** "Returns how many safe lines are drawn if, again and again, the lowest line that is safe then is drawn, as long as there is one." */
    private static void safeMoves() {
        for (int[] board : Games.BOARDS) {
            BoxesGame game = Games.on(board[0], board[1]);
            int safe = game.safeMoves();
            Check.same("P18 nothing is drawn", game.count(3), 0);
            for (int move = 0; move < safe; move++) {
                Check.same("P18 safe moves left", game.safeMoves(), safe - move);
                // the greedy style chooses it as long as no line is taking
                Check.same("P18 the next one is safe", game.kind(game.advice(0)), 2);
                game.draw(game.advice(0));
            }
            Check.same("P18 no safe line", game.count(7), 0);
            Check.same("P18 no safe moves", game.safeMoves(), 0);
            Check.same("P18 at the end", Games.full(board[0], board[1]).safeMoves(), 0);
        }
        // one line is safe; and two are, of which one is left when the other is drawn
        Check.same("P18 one safe line", Games.on(1, 1, 0).safeMoves(), 1);
        Check.same("P18 none beside a taking line", Games.on(1, 1, 0, 1, 2).safeMoves(), 0);
        Check.same("P18 three safe lines, one move", Games.on(1, 1, 3).safeMoves(), 1);
        Check.same("P18 both ends of a row", Games.on(2, 1, 0, 1).safeMoves(), 2);
    }

    public static void main(String[] args) {
        countsOfTheEmpty();
        countsOfTheFull();
        whatOfCount();
        players();
        scores();
        firstAndLastLines();
        linesBeyond();
        belowTheLastRow();
        rightOfTheLastColumn();
        fourSides();
        linesOfKindAndPrice();
        kindsByOpenSides();
        runs();
        prices();
        priceOfDrawn();
        moves();
        movesNotUndone();
        boxes();
        safeMoves();
        Check.end();
    }
}
