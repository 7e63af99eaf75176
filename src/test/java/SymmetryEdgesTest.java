/** The boundary cases of promises 25 to 27; each test has its sentence of the document above it. */
public final class SymmetryEdgesTest {
    private static long allLines(BoxesGame game) {
        return (1L << game.count(2)) - 1;
    }

    private static ReferenceGame plain(int[] board) {
        ReferenceGame plain = new ReferenceGame();
        plain.begin(board[0], board[1]);
        return plain;
    }

    /** "The code of a set of drawn lines is the sum of 2 to the power of their numbers.", of none and of all */
    private static void codesOfTheEmptyAndTheFull() {
        for (int[] board : Games.BOARDS) {
            BoxesGame full = Games.full(board[0], board[1]);
            Check.same("P25 canonical() of no line", Games.on(board[0], board[1]).canonical(), 0);
            Check.same("P25 canonical() of all lines", full.canonical(), allLines(full));
        }
        // powers beyond an int: lines 0 to 30, to 31, to 32 and to 39
        Check.same("P25 the largest board", Games.full(4, 4).canonical(), 1099511627775L);
        Check.same("P25 all of 31 lines", Games.full(4, 3).canonical(), 2147483647L);
        Check.same("P25 all of 31 other lines", Games.full(3, 4).canonical(), 2147483647L);
        Check.same("P25 all but the last line", Games.allBut(4, 4, 39).canonical(), (1L << 39) - 1);
        // the border, which every symmetry takes to itself
        Check.same("P25 the border", Games.on(4, 4, 0, 1, 2, 3, 16, 17, 18, 19, 20, 24, 25, 29, 30, 34, 35, 39).canonical(),
            15L + (15L << 16) + (33L << 20) + (33L << 24) + (17L << 30) + (17L << 35));
    }

    /** "if there are as many columns as rows, also each of these four followed by an exchange of columns and rows" */
    private static void squareOrNot() {
        for (int[] board : Games.BOARDS) {
            int due = board[0] == board[1] ? 8 : 4;
            Check.same("P26 symmetries() of no line", Games.on(board[0], board[1]).symmetries(), due);
            Check.same("P26 symmetries() of all lines", Games.full(board[0], board[1]).symmetries(), due);
        }
    }

    /** "The symmetries of a board are: to leave it as it is, ..": one always takes the lines to the same lines. */
    private static void atLeastOne() {
        for (int[] board : Games.BOARDS) {
            ReferenceGame plain = plain(board);
            BoxesGame game = Games.on(board[0], board[1]);
            for (int line = 0; line < game.count(2); line++) {
                game.draw(line);
                plain.draw(line);
                Check.same("P26 symmetries() of the first lines", game.symmetries(), plain.symmetries());
                Check.same("P25 canonical() of the first lines", game.canonical(), plain.canonical());
            }
        }
        Check.same("P26 symmetries() of a corner line", Games.on(4, 4, 0).symmetries(), 1);
        Check.same("P26 symmetries() of all lines but it", Games.allBut(4, 4, 0).symmetries(), 1);
    }

    /** "The canonical code of a position is the smallest code of the sets to which the symmetries take its drawn lines." */
    private static void eachLine() {
        for (int[] board : Games.BOARDS) {
            int lines = Games.on(board[0], board[1]).count(2);
            for (int line = 0; line < lines; line++) {
                ReferenceGame plain = plain(board);
                plain.draw(line);
                BoxesGame game = Games.on(board[0], board[1], line);
                Check.same("P25 canonical() of line " + line, game.canonical(), plain.canonical());
                Check.same("P26 symmetries() of line " + line, game.symmetries(), plain.symmetries());
            }
        }
        Check.same("P25 the last line is like the first one", Games.on(4, 4, 39).canonical(), 1);
    }

    /** "Returns the number of different canonical codes of the positions behind all open lines.", for none to all open */
    private static void followers() {
        for (int[] board : Games.BOARDS) {
            ReferenceGame plain = plain(board);
            BoxesGame game = Games.on(board[0], board[1]);
            int lines = game.count(2);
            for (int line = lines - 1; line >= 0; line--) {
                Check.same("P27 followers() with " + (line + 1) + " open", game.followers(), plain.followers());
                game.draw(line);
                plain.draw(line);
            }
            Check.same("P27 followers() with none open", game.followers(), 0);
            Check.same("P27 followers() with one open", Games.allBut(board[0], board[1], lines - 1).followers(), 1);
        }
    }

    /** "Returns ..": these calls change nothing. */
    private static void changeNothing() {
        Twins.Maker[] makers = {BoxesGame::new, Games::middle, () -> Games.full(4, 4), () -> Games.on(4, 4, 39)};
        for (Twins.Maker maker : makers) {
            Twins.answersOnly("P25 canonical()", maker, maker.make().canonical(), BoxesGame::canonical);
            Twins.answersOnly("P26 symmetries()", maker, maker.make().symmetries(), BoxesGame::symmetries);
            Twins.answersOnly("P27 followers()", maker, maker.make().followers(), BoxesGame::followers);
        }
    }

    public static void main(String[] args) {
        codesOfTheEmptyAndTheFull();
        squareOrNot();
        atLeastOne();
        eachLine();
        followers();
        changeNothing();
        Check.end();
    }
}
