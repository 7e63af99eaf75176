/** The boundary cases of promises 1 to 5; each test has its sentence of the document above it. */
public final class GameEdgesTest {
    /** "Creates a game on a board of 2 columns and 2 rows, with an empty buffer." */
    private static void newObject() {
        BoxesGame game = new BoxesGame();
        Check.same("P1 lines", game.count(2), 12);
        Check.same("P1 last line", game.kind(11), 2);
        Check.same("P1 first line beyond", Check.answer(() -> game.kind(12)), "throws IndexOutOfBoundsException");
        Check.same("P1 last box", game.owner(3), -1);
        Check.same("P1 first box beyond", Check.answer(() -> game.owner(4)), "throws IndexOutOfBoundsException");
        Check.same("P1 empty buffer", game.clearInput(), 0);
        Twins.alike("P1 like begin(2,2)", new BoxesGame(), Games.on(2, 2));
        Twins.refused("P1 nothing to undo", BoxesGame::new, IllegalStateException.class, BoxesGame::undo);
        Twins.refused("P1 nothing to load", BoxesGame::new, IllegalStateException.class, BoxesGame::load);
    }

    /** "At first no line is drawn, and player 0 is to move." */
    private static void atFirst() {
        for (int[] board : Games.BOARDS) {
            BoxesGame game = Games.full(board[0], board[1]);
            Check.same("P2 all lines are drawn", game.count(3), game.count(2));
            game.begin(board[0], board[1]);
            Check.same("P2 no line is drawn", game.count(3), 0);
            Check.same("P2 player 0 is to move", game.count(5), 0);
            for (int line = 0; line < game.count(2); line++) {
                Check.same("P2 line " + line + " is open", game.kind(line), 2);
            }
        }
        BoxesGame odd = Games.on(1, 1, 0);
        Check.same("P2 player 1 is to move", odd.count(5), 1);
        odd.begin(1, 1);
        Check.same("P2 player 0 is to move again", odd.count(5), 0);
    }

    /** "A board has 1 to 4 columns and 1 to 4 rows of boxes." */
    private static void columnsAndRows() {
        for (int columns = 1; columns <= 4; columns++) {
            for (int rows = 1; rows <= 4; rows++) {
                BoxesGame game = new BoxesGame();
                int lines = columns * (rows + 1) + (columns + 1) * rows;
                Check.same("P2 begin(" + columns + "," + rows + ")", game.begin(columns, rows), lines);
                Check.same("P2 columns", game.count(0), columns);
                Check.same("P2 rows", game.count(1), rows);
            }
        }
        for (int in = 1; in <= 4; in++) {
            for (int out : new int[] {0, 5, -1, 6, Integer.MIN_VALUE, Integer.MAX_VALUE}) {
                beginRefused(in, out);
                beginRefused(out, in);
            }
        }
        beginRefused(0, 0);
        beginRefused(5, 5);
        beginRefused(0, 5);
        beginRefused(-1, -2);
    }

    private static void beginRefused(int columns, int rows) {
        Twins.refused("P2 begin(" + columns + "," + rows + ")", Games::middle, IllegalArgumentException.class,
            game -> game.begin(columns, rows));
    }

    /** "No moves can be undone then." */
    private static void beginEndsUndo() {
        for (int[] board : Games.BOARDS) {
            Twins.refused("P2 undo() after begin", () -> {
                BoxesGame game = Games.full(3, 3);
                game.begin(board[0], board[1]);
                return game;
            }, IllegalStateException.class, BoxesGame::undo);
        }
    }

    /** "The buffer stays." */
    private static void beginKeepsBuffer() {
        for (int length : new int[] {0, 1, 59, 60}) {
            BoxesGame game = new BoxesGame();
            Games.type(game, Games.text(length));
            game.begin(4, 4);
            Check.same("P2 the buffer of " + length + " stays", game.clearInput(), length);
        }
        BoxesGame game = Games.on(4, 4);
        Games.type(game, "h00,v11");
        game.begin(2, 2);
        Check.same("P2 the text stays", game.load(), 0);
        Check.same("P2 first line of the text", game.drawn(0), 0);
        Check.same("P2 second line of the text", game.drawn(1), 10);
    }

    /** "IndexOutOfBoundsException if the line does not exist" */
    private static void linesOfDraw() {
        for (int[] board : Games.BOARDS) {
            BoxesGame game = Games.on(board[0], board[1]);
            int lines = game.count(2);
            Check.same("P3 draw(0)", game.draw(0), 0);
            Check.same("P3 draw of the last line", game.draw(lines - 1), 0);
            Check.same("P3 both are drawn", game.kind(0) + game.kind(lines - 1), 0);
            for (int line : new int[] {-1, lines, lines + 1, Integer.MIN_VALUE, Integer.MAX_VALUE}) {
                Twins.refused("P3 draw(" + line + ") of " + lines, () -> Games.on(board[0], board[1], 1),
                    IndexOutOfBoundsException.class, g -> g.draw(line));
            }
        }
    }

    /** "IllegalStateException if the line is drawn already" */
    private static void drawnLinesOfDraw() {
        for (int[] board : Games.BOARDS) {
            int lines = Games.on(board[0], board[1]).count(2);
            for (int line : new int[] {0, lines / 2, lines - 1}) {
                Twins.refused("P3 draw(" + line + ") again", () -> Games.on(board[0], board[1], line),
                    IllegalStateException.class, g -> g.draw(line));
                Twins.refused("P3 draw(" + line + ") when all are drawn", () -> Games.full(board[0], board[1]),
                    IllegalStateException.class, g -> g.draw(line));
                BoxesGame undone = Games.on(board[0], board[1], line);
                undone.undo();
                Check.same("P3 draw(" + line + ") when undone", undone.draw(line), 0);
            }
        }
    }

    /** "A box is complete if all of its sides are drawn; it belongs to the player who drew the last one of them." */
    private static void complete() {
        int[] sides = {4, 7, 17, 18};
        for (int last : sides) {
            BoxesGame game = Games.on(3, 3);
            for (int side : sides) {
                if (side != last) {
                    game.draw(side);
                }
            }
            Check.same("P3 three sides are not all", game.count(4), 0);
            Check.same("P3 nobody's box", game.owner(4), -1);
            Check.same("P3 the last side is " + last, game.draw(last), 1);
            Check.same("P3 the box of who drew it", game.owner(4), 1);
        }
    }

    /** "If a move completes one or two boxes, the same player is to move again, otherwise the other player." */
    private static void whoIsToMove() {
        BoxesGame none = Games.on(2, 1, 0);
        Check.same("P3 completes none", none.draw(2), 0);
        Check.same("P3 the other player", none.count(5), 0);
        BoxesGame one = Games.on(2, 1, 0, 2, 4);
        Check.same("P3 completes one", one.draw(5), 1);
        Check.same("P3 the same player for one", one.count(5), 1);
        BoxesGame two = Games.on(2, 1, 0, 1, 2, 3, 4, 6);
        Check.same("P3 completes two", two.draw(5), 2);
        Check.same("P3 the same player for two", two.count(5), 0);
        BoxesGame above = Games.on(1, 2, 0, 2, 3, 4, 5, 6);
        Check.same("P3 completes two, one above the other", above.draw(1), 2);
        Check.same("P3 the same player for these", above.count(5), 0);
    }

    /** "IllegalStateException if no line is drawn" */
    private static void undoOfNothing() {
        for (int[] board : Games.BOARDS) {
            Twins.refused("P4 undo() at first", () -> Games.on(board[0], board[1]), IllegalStateException.class,
                BoxesGame::undo);
            Twins.refused("P4 undo() when all is undone", () -> {
                BoxesGame game = Games.on(board[0], board[1], 3);
                Check.same("P4 the only line", game.undo(), 3);
                return game;
            }, IllegalStateException.class, BoxesGame::undo);
        }
    }

    /**
     * "Undoes the latest move: the line is open again, the boxes that it completed belong to nobody,
     * and the player who drew it is to move."
     */
    private static void undoFromTheLastToTheFirst() {
        for (int[] board : Games.BOARDS) {
            BoxesGame game = Games.on(board[0], board[1]);
            int lines = game.count(2);
            int[] players = new int[lines];
            int[] boxes = new int[lines];
            long[] hashes = new long[lines];
            // it has no divisor in common with the number of lines
            int step = lines == 7 ? 3 : 7;
            for (int move = 0; move < lines; move++) {
                players[move] = game.count(5);
                boxes[move] = game.count(4);
                hashes[move] = game.digest();
                game.draw(move * step % lines);
            }
            for (int move = lines - 1; move >= 0; move--) {
                int line = game.drawn(move);
                Check.same("P4 the latest move", game.undo(), line);
                Check.same("P4 its line is open", game.kind(line) == 0, false);
                Check.same("P4 who drew it is to move", game.count(5), players[move]);
                Check.same("P4 complete boxes", game.count(4), boxes[move]);
                Check.same("P4 scores", game.score(0) + game.score(1), boxes[move]);
                Check.same("P4 all as before", game.digest(), hashes[move]);
            }
        }
    }

    /** "style: 0 to 2", "moves: how many lines at most, 1 to 40" */
    private static void stylesAndMovesOfFollow() {
        for (int style = 0; style <= 2; style++) {
            Check.same("P5 follow(" + style + ",1)", Games.middle().follow(style, 1), 1);
            BoxesGame all = Games.on(4, 4);
            Check.same("P5 follow(" + style + ",40)", all.follow(style, 40), 40);
            Check.same("P5 all are drawn", all.count(3), 40);
            for (int moves : new int[] {0, 41, -1, Integer.MIN_VALUE, Integer.MAX_VALUE}) {
                followRefused(style, moves);
            }
        }
        for (int style : new int[] {-1, 3, Integer.MIN_VALUE, Integer.MAX_VALUE}) {
            followRefused(style, 1);
            followRefused(style, 40);
            followRefused(style, 0);
        }
    }

    private static void followRefused(int style, int moves) {
        Twins.refused("P5 follow(" + style + "," + moves + ")", Games::middle, IllegalArgumentException.class,
            game -> game.follow(style, moves));
        Twins.refused("P5 follow(" + style + "," + moves + ") at the end", () -> Games.full(2, 2),
            IllegalArgumentException.class, game -> game.follow(style, moves));
    }

    /** "Draws lines by a style, one after the other, for whoever is to move, as long as there are open lines." */
    private static void followToTheEnd() {
        for (int style = 0; style <= 2; style++) {
            for (int[] board : Games.BOARDS) {
                int lines = Games.on(board[0], board[1]).count(2);
                String what = "P5 of " + lines + " lines by style " + style;
                BoxesGame game = Games.on(board[0], board[1]);
                Check.same(what + ", all but one", game.follow(style, lines - 1), lines - 1);
                Check.same(what + ", the last", game.follow(style, 40), 1);
                Check.same(what + ", none left", game.follow(style, 1), 0);
                Check.same(what + ", none left of 40", game.follow(style, 40), 0);
                Check.same(what + ", just so many", Games.on(board[0], board[1]).follow(style, lines), lines);
                Check.same(what + ", all boxes", game.count(4), board[0] * board[1]);
                BoxesGame byAdvice = Games.on(board[0], board[1]);
                for (int move = 0; move < lines; move++) {
                    byAdvice.draw(byAdvice.advice(style));
                }
                Check.same(what + ", as advised", game.digest(), byAdvice.digest());
            }
        }
    }

    /** "An object is used for at most 512 calls after it has been made" */
    private static void theLastCall() {
        BoxesGame game = new BoxesGame();
        game.begin(4, 4);
        for (int i = 0; i < 85; i++) {
            game.follow(1, 40);
            game.outcome();
            game.meanDifference(20, i);
            game.begin(4, 4);
            game.playout(2, 2, 0);
            Check.answer(() -> game.append(118));
        }
        // these were 1 + 6 * 85 calls, the digest is the last one
        BoxesGame fresh = Games.on(4, 4);
        Games.type(fresh, "v".repeat(60));
        Check.same("P31 the 512th call", Check.answer(game::digest), fresh.digest());
    }

    public static void main(String[] args) {
        newObject();
        atFirst();
        columnsAndRows();
        beginEndsUndo();
        beginKeepsBuffer();
        linesOfDraw();
        drawnLinesOfDraw();
        complete();
        whoIsToMove();
        undoOfNothing();
        undoFromTheLastToTheFirst();
        stylesAndMovesOfFollow();
        followToTheEnd();
        theLastCall();
        Check.end();
    }
}
