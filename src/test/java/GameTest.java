/** Promises 1 to 5: a new object, begin, draw, undo, follow. */
public final class GameTest {
    private static void newObject() {
        BoxesGame game = new BoxesGame();
        Check.same("NONE", BoxesGame.NONE, -1);
        Check.same("P1 columns", game.count(0), 2);
        Check.same("P1 rows", game.count(1), 2);
        Check.same("P1 lines", game.count(2), 12);
        Check.same("P1 drawn lines", game.count(3), 0);
        Check.same("P1 player to move", game.count(5), 0);
        Check.same("P1 score", game.score(0) + game.score(1), 0);
        Check.same("P1 owner", game.owner(3), -1);
        Check.same("P1 open sides", game.openSides(3), 4);
        Check.same("P1 code", game.canonical(), 0);
        Check.same("P1 buffer", game.clearInput(), 0);
        BoxesGame other = new BoxesGame();
        game.draw(5);
        Check.same("P1 objects stand apart", other.count(3), 0);
    }

    private static void beginSizes() {
        BoxesGame game = new BoxesGame();
        int[][] lines = {{4, 7, 10, 13}, {7, 12, 17, 22}, {10, 17, 24, 31}, {13, 22, 31, 40}};
        for (int columns = 1; columns <= 4; columns++) {
            for (int rows = 1; rows <= 4; rows++) {
                String what = "P2 begin(" + columns + "," + rows + ")";
                Check.same(what, game.begin(columns, rows), lines[columns - 1][rows - 1]);
                Check.same(what + " columns", game.count(0), columns);
                Check.same(what + " rows", game.count(1), rows);
                Check.same(what + " lines", game.count(2), lines[columns - 1][rows - 1]);
            }
        }
    }

    private static void beginAnew() {
        BoxesGame game = Games.allBut(2, 1);
        game.append('h');
        Check.same("P2 all boxes complete", game.count(4), 2);
        game.begin(2, 1);
        Check.same("P2 no lines drawn", game.count(3), 0);
        Check.same("P2 no boxes complete", game.count(4), 0);
        Check.same("P2 nobody's box", game.owner(0), -1);
        Check.same("P2 no score", game.score(0) + game.score(1), 0);
        Check.same("P2 line is open", game.kind(0), 2);
        Check.raises(game, "P2 no undo", IllegalStateException.class, () -> game.undo());
        Check.raises(game, "P2 no first move", IndexOutOfBoundsException.class, () -> game.drawn(0));
        Check.same("P2 buffer stays", game.clearInput(), 1);
        BoxesGame odd = Games.on(2, 2, 3);
        odd.begin(2, 2);
        Check.same("P2 player 0 begins again", odd.count(5), 0);
    }

    private static void beginOnAnotherBoard() {
        BoxesGame game = Games.on(3, 1, 0, 1, 2, 3, 4, 5);
        Check.same("P2 outcome before", game.outcome(), -3);
        Check.same("P2 strings before", game.count(10), 1);
        game.begin(1, 3);
        for (int line = 0; line <= 5; line++) {
            game.draw(line);
        }
        // now the same numbers mean all horizontal lines of a column and both sides of its first box
        Check.same("P2 outcome on the other board", game.outcome(), 0);
        Check.same("P2 prediction on the other board", game.prediction(), 0);
        Check.same("P2 strings on the other board", game.count(10), 2);
        Check.same("P2 box 0 on the other board", game.openSides(0), 0);
    }

    private static void beginOutOfRange() {
        BoxesGame game = Games.on(3, 2, 4, 7);
        game.append('v');
        int[][] wrong = {{0, 1}, {1, 0}, {5, 1}, {1, 5}, {-1, 2}, {2, -1}, {0, 5},
            {Integer.MAX_VALUE, 1}, {1, Integer.MIN_VALUE}};
        for (int[] size : wrong) {
            Check.raises(game, "P2 begin(" + size[0] + "," + size[1] + ")", IllegalArgumentException.class,
                () -> game.begin(size[0], size[1]));
        }
    }

    private static void drawInTurn() {
        BoxesGame game = Games.on(2, 1);
        int[] lines = {0, 1, 2, 3, 4};
        for (int i = 0; i < lines.length; i++) {
            Check.same("P3 player before move " + i, game.count(5), i % 2);
            Check.same("P3 draw(" + lines[i] + ")", game.draw(lines[i]), 0);
        }
        Check.same("P3 player 1 takes a box", game.draw(5), 1);
        Check.same("P3 player 1 moves again", game.count(5), 1);
        Check.same("P3 owner", game.owner(0), 1);
        Check.same("P3 the other box", game.owner(1), -1);
        Check.same("P3 the last box", game.draw(6), 1);
        Check.same("P3 player 1 would move", game.count(5), 1);
        Check.same("P3 score", game.score(1), 2);
    }

    private static void drawTwoBoxesAtOnce() {
        BoxesGame game = Games.allBut(2, 1, 5);
        Check.same("P3 player before", game.count(5), 0);
        Check.same("P3 two boxes", game.draw(5), 2);
        Check.same("P3 score of 0", game.score(0), 2);
        Check.same("P3 player after", game.count(5), 0);
    }

    private static void drawWrong() {
        BoxesGame game = Games.on(2, 2, 3, 11);
        for (int line : new int[] {-1, 12, 40, 64, Integer.MIN_VALUE, Integer.MAX_VALUE}) {
            Check.raises(game, "P3 draw(" + line + ")", IndexOutOfBoundsException.class, () -> game.draw(line));
        }
        Check.raises(game, "P3 draw(3)", IllegalStateException.class, () -> game.draw(3));
        Check.raises(game, "P3 draw(11)", IllegalStateException.class, () -> game.draw(11));
        BoxesGame large = Games.on(4, 4, 39);
        Check.raises(large, "P3 draw(39)", IllegalStateException.class, () -> large.draw(39));
        Check.raises(large, "P3 draw(40)", IndexOutOfBoundsException.class, () -> large.draw(40));
        Check.same("P3 draw(7)", large.draw(7), 0);
    }

    private static void undoMoves() {
        BoxesGame game = Games.on(2, 1, 0, 1, 2, 3, 4);
        long before = game.digest();
        game.draw(5);
        game.draw(6);
        Check.same("P4 undo()", game.undo(), 6);
        Check.same("P4 player 1 drew it", game.count(5), 1);
        Check.same("P4 box is free", game.owner(1), -1);
        Check.same("P4 other box is not", game.owner(0), 1);
        Check.same("P4 undo() again", game.undo(), 5);
        Check.same("P4 player 1 drew that too", game.count(5), 1);
        Check.same("P4 no score", game.score(1), 0);
        Check.same("P4 line is open", game.kind(5), 1);
        Check.same("P4 state as before", game.digest(), before);
        Check.same("P4 undo() of a plain move", game.undo(), 4);
        Check.same("P4 player 0 drew it", game.count(5), 0);
        for (int line = 3; line >= 0; line--) {
            Check.same("P4 undo() back to " + line, game.undo(), line);
        }
        Check.same("P4 player 0 began", game.count(5), 0);
        Check.raises(game, "P4 undo() of nothing", IllegalStateException.class, () -> game.undo());
        Check.raises(new BoxesGame(), "P4 undo() at once", IllegalStateException.class, () -> new BoxesGame().undo());
    }

    private static void undoTwoBoxesAtOnce() {
        BoxesGame game = Games.allBut(2, 1, 5);
        game.draw(5);
        Check.same("P4 undo() of a double", game.undo(), 5);
        Check.same("P4 boxes are free", game.owner(0) + game.owner(1), -2);
        Check.same("P4 player of a double", game.count(5), 0);
        Check.same("P4 double again", game.draw(5), 2);
    }

    private static void undoOtherMoves() {
        BoxesGame game = new BoxesGame();
        game.follow(0, 3);
        Games.type(game, "h02,v20");
        game.load();
        Check.same("P4 undo() after load", game.undo(), 8);
        Check.same("P4 undo() after load again", game.undo(), 4);
        Check.same("P4 undo() after follow", game.undo(), 2);
        Check.same("P4 moves left", game.count(3), 2);
    }

    private static void followStyle() {
        BoxesGame game = new BoxesGame();
        Check.same("P5 follow(0, 2)", game.follow(0, 2), 2);
        Check.same("P5 first line", game.drawn(0), 0);
        Check.same("P5 second line", game.drawn(1), 1);
        Check.same("P5 follow(0, 40)", game.follow(0, 40), 10);
        Check.same("P5 all boxes", game.count(4), 4);
        Check.same("P5 nothing left", game.follow(2, 1), 0);
        for (int style = 0; style <= 2; style++) {
            followsAdvice(style);
        }
    }

    private static void followsAdvice(int style) {
        BoxesGame followed = Games.on(3, 3);
        BoxesGame advised = Games.on(3, 3);
        for (int i = 0; i < 24; i++) {
            Check.same("P5 follow(" + style + ", 1)", followed.follow(style, 1), 1);
            advised.draw(advised.advice(style));
        }
        Check.same("P5 same end by style " + style, followed.digest(), advised.digest());
        BoxesGame atOnce = Games.on(3, 3);
        Check.same("P5 follow(" + style + ", 24)", atOnce.follow(style, 24), 24);
        Check.same("P5 same end at once by style " + style, atOnce.digest(), advised.digest());
    }

    private static void followWrong() {
        BoxesGame game = Games.on(2, 2, 3);
        int[][] wrong = {{-1, 1}, {3, 1}, {0, 0}, {0, 41}, {2, -1}, {3, 0}, {1, Integer.MAX_VALUE}};
        for (int[] call : wrong) {
            Check.raises(game, "P5 follow(" + call[0] + "," + call[1] + ")", IllegalArgumentException.class,
                () -> game.follow(call[0], call[1]));
        }
        BoxesGame ended = Games.allBut(1, 1);
        Check.raises(ended, "P5 follow(3, 1) at the end", IllegalArgumentException.class, () -> ended.follow(3, 1));
    }

    public static void main(String[] args) {
        newObject();
        beginSizes();
        beginAnew();
        beginOnAnotherBoard();
        beginOutOfRange();
        drawInTurn();
        drawTwoBoxesAtOnce();
        drawWrong();
        undoMoves();
        undoTwoBoxesAtOnce();
        undoOtherMoves();
        followStyle();
        followWrong();
        Check.end();
    }
}
