/** The boundary cases of promises 23 and 24; each test has its sentence of the document above it. */
public final class ExactEdgesTest {
    /** The first lines of three by two boxes are drawn, so that so many are open. */
    private static BoxesGame withOpen(int amount) {
        BoxesGame game = Games.on(3, 2);
        for (int line = 0; line < 17 - amount; line++) {
            game.draw(line);
        }
        return game;
    }

    private static ReferenceGame plain(BoxesGame game) {
        ReferenceGame plain = new ReferenceGame();
        plain.begin(game.count(0), game.count(1));
        for (int move = 0; move < game.count(3); move++) {
            plain.draw(game.drawn(move));
        }
        return plain;
    }

    /** "it is 0 if there is none" */
    private static void outcomeOfNone() {
        for (int[] board : Games.BOARDS) {
            Check.same("P23 outcome() at the end", Games.full(board[0], board[1]).outcome(), 0);
        }
    }

    /** The greatest worth of the only open line is that of one or two boxes. */
    private static void oneOpenLine() {
        for (int[] board : Games.BOARDS) {
            int lines = Games.on(board[0], board[1]).count(2);
            for (int line = 0; line < lines; line++) {
                BoxesGame game = Games.allBut(board[0], board[1], line);
                int boxes = board[0] * board[1] - game.count(4);
                Check.same("P23 outcome() of line " + line, game.outcome(), boxes);
                Check.same("P24 worth(" + line + ")", game.worth(line), boxes);
            }
        }
    }

    /** "They are computed only if there are at most 12 open lines.", "if there are more than 12 open lines" */
    private static void twelveAndThirteen() {
        for (int open = 1; open <= 12; open++) {
            BoxesGame game = withOpen(open);
            ReferenceGame plain = plain(game);
            Check.same("P23 outcome() of " + open, game.outcome(), plain.outcome());
            for (int line = 17 - open; line < 17; line++) {
                Check.same("P24 worth(" + line + ") of " + open, game.worth(line), plain.worth(line));
            }
        }
        for (int open = 13; open <= 17; open++) {
            int amount = open;
            Twins.refused("P23 outcome() of " + open, () -> withOpen(amount), IllegalStateException.class,
                BoxesGame::outcome);
            for (int line : new int[] {17 - open, 16}) {
                Twins.refused("P24 worth(" + line + ") of " + open, () -> withOpen(amount),
                    IllegalStateException.class, game -> game.worth(line));
            }
        }
    }

    /** The same on the boards that have twelve lines or one more, and on the largest one. */
    private static void twelveAndThirteenAtFirst() {
        Check.same("P23 outcome() of new 2 x 2", new BoxesGame().outcome(), plain(new BoxesGame()).outcome());
        for (int[] board : new int[][] {{4, 1}, {1, 4}}) {
            Twins.Maker maker = () -> Games.on(board[0], board[1]);
            Twins.refused("P23 outcome() of 13 at first", maker, IllegalStateException.class, BoxesGame::outcome);
            Twins.refused("P24 worth(0) of 13 at first", maker, IllegalStateException.class, game -> game.worth(0));
            BoxesGame game = maker.make();
            game.draw(12);
            Check.same("P23 outcome() of 12", game.outcome(), plain(game).outcome());
            Check.same("P24 worth(0) of 12", game.worth(0), plain(game).worth(0));
            game.undo();
            Check.same("P23 outcome() of 13 again", Check.answer(game::outcome), "throws IllegalStateException");
        }
        Twins.refused("P23 outcome() of 40", () -> Games.on(4, 4), IllegalStateException.class, BoxesGame::outcome);
        BoxesGame large = Games.allBut(4, 4, 0, 4, 8, 12, 16, 39, 38, 37, 36, 35, 19, 23);
        Check.same("P23 outcome() of the last 12 of 40", large.outcome(), plain(large).outcome());
        Check.same("P24 worth(39) of the last 12 of 40", large.worth(39), plain(large).worth(39));
        Check.same("P24 worth(0) of the last 12 of 40", large.worth(0), plain(large).worth(0));
    }

    /** "IndexOutOfBoundsException if the line does not exist" */
    private static void lines() {
        for (int[] board : Games.BOARDS) {
            int lines = Games.on(board[0], board[1]).count(2);
            for (int line : new int[] {-1, lines, lines + 1, Integer.MIN_VALUE, Integer.MAX_VALUE}) {
                Twins.refused("P24 worth(" + line + ")", () -> Games.allBut(board[0], board[1], 0, 2),
                    IndexOutOfBoundsException.class, game -> game.worth(line));
                // more than 12 lines are open on the larger boards, which is named later
                Twins.refused("P24 worth(" + line + ") at first", () -> Games.on(board[0], board[1]),
                    IndexOutOfBoundsException.class, game -> game.worth(line));
            }
            BoxesGame game = Games.allBut(board[0], board[1], 0, lines - 1);
            Check.same("P24 worth(0)", game.worth(0), plain(game).worth(0));
            Check.same("P24 worth of the last line", game.worth(lines - 1), plain(game).worth(lines - 1));
        }
    }

    /** "IllegalStateException if the line is drawn, or there are more than 12 open lines" */
    private static void drawnLines() {
        for (int[] board : Games.BOARDS) {
            int lines = Games.on(board[0], board[1]).count(2);
            for (int line : new int[] {0, lines - 1}) {
                Twins.refused("P24 worth(" + line + ") of the only drawn line",
                    () -> Games.on(board[0], board[1], line), IllegalStateException.class, game -> game.worth(line));
                Twins.refused("P24 worth(" + line + ") with one line open",
                    () -> Games.allBut(board[0], board[1], 1), IllegalStateException.class, game -> game.worth(line));
                Twins.refused("P24 worth(" + line + ") at the end",
                    () -> Games.full(board[0], board[1]), IllegalStateException.class, game -> game.worth(line));
            }
        }
    }

    /** "Nothing is promised beyond the answers and state changes described above": these two change nothing. */
    private static void changeNothing() {
        for (int open = 0; open <= 12; open++) {
            int amount = open;
            Twins.answersOnly("P23 outcome() of " + open, () -> withOpen(amount), withOpen(open).outcome(),
                BoxesGame::outcome);
            if (open > 0) {
                Twins.answersOnly("P24 worth(16) of " + open, () -> withOpen(amount), withOpen(open).worth(16),
                    game -> game.worth(16));
            }
        }
    }

    /** Another position with as many open lines, after lines were undone and others drawn */
    private static void otherTwelve() {
        BoxesGame game = Games.on(3, 2, 0, 1, 2, 3, 4);
        Check.same("P23 outcome() of the first twelve", game.outcome(), plain(game).outcome());
        for (int i = 0; i < 5; i++) {
            game.undo();
        }
        for (int line : new int[] {16, 9, 14, 5, 11}) {
            game.draw(line);
        }
        Check.same("P23 outcome() of other twelve", game.outcome(), plain(game).outcome());
        Check.same("P24 worth(0) of other twelve", game.worth(0), plain(game).worth(0));
        for (int i = 0; i < 8; i++) {
            game.follow(0, 1);
        }
        Check.same("P23 outcome() of four of these", game.outcome(), plain(game).outcome());
        game.begin(2, 2);
        Check.same("P23 outcome() of the twelve of another board", game.outcome(), plain(game).outcome());
    }

    /** Another position, of whose open lines none was open in the one that was solved before */
    private static void noneOfTheSame() {
        BoxesGame game = Games.allBut(3, 2, 0, 1, 2, 9, 10, 11);
        Check.same("P23 outcome() of six", game.outcome(), plain(game).outcome());
        for (int i = 0; i < 11; i++) {
            game.undo();
        }
        for (int line = 0; line < 12; line++) {
            game.draw(line);
        }
        Check.same("P23 outcome() of five others", game.outcome(), plain(game).outcome());
        Check.same("P24 worth(16) of five others", game.worth(16), plain(game).worth(16));
        Check.same("P28 advice(2) of five others", game.advice(2), plain(game).advice(2));
    }

    public static void main(String[] args) {
        outcomeOfNone();
        oneOpenLine();
        twelveAndThirteen();
        twelveAndThirteenAtFirst();
        lines();
        drawnLines();
        otherTwelve();
        noneOfTheSame();
        changeNothing();
        Check.end();
    }
}
