/** Promises 25 to 27: canonical, symmetries, followers. */
public final class SymmetryTest {
    private static void canonical(BoxesGame game, String name, long code, int symmetries) {
        Check.same("P25 canonical() of " + name, game.canonical(), code);
        Check.same("P26 symmetries() of " + name, game.symmetries(), symmetries);
    }

    private static void squareBoards() {
        canonical(new BoxesGame(), "nothing", 0, 8);
        canonical(Games.on(2, 2, 0), "h00", 1, 1);
        canonical(Games.on(2, 2, 11), "v21", 1, 1);
        canonical(Games.on(2, 2, 2), "h01", 4, 2);
        canonical(Games.on(2, 2, 3), "h11", 4, 2);
        canonical(Games.on(2, 2, 7), "v10", 4, 2);
        canonical(Games.on(2, 2, 10), "v11", 4, 2);
        canonical(Games.on(2, 2, 8, 11), "the right side", 3, 2);
        canonical(Games.on(2, 2, 2, 3), "h01 and h11", 4 + 8, 4);
        canonical(Games.on(2, 2, 7, 10), "v10 and v11", 4 + 8, 4);
        canonical(Games.on(2, 2, 2, 3, 7, 10), "the inner lines", 4 + 8 + 128 + 1024, 8);
        canonical(Games.on(2, 2, 0, 7), "h00 and v10", 4 + 64, 1);
        canonical(Games.on(2, 2, 0, 8, 5, 9), "a wheel", 1 + 256 + 32 + 512, 4);
        canonical(Games.on(2, 2, 1, 6, 4, 11), "a wheel the other way", 1 + 256 + 32 + 512, 4);
        canonical(Games.on(1, 1, 0, 2), "a corner", 1 + 4, 2);
        canonical(Games.on(1, 1, 1, 3), "another corner", 1 + 4, 2);
        canonical(Games.on(1, 1, 2, 3), "two sides", 1 + 2, 4);
        canonical(Games.allBut(1, 1), "all of one box", 15, 8);
        canonical(Games.allBut(4, 4), "all lines", (1L << 40) - 1, 8);
        canonical(Games.allBut(4, 4, 0), "all lines but h00", (1L << 39) - 1, 1);
        canonical(Games.on(4, 4, 39), "v43", 1, 1);
    }

    private static void otherBoards() {
        canonical(Games.on(3, 2), "nothing on 3 x 2", 0, 4);
        canonical(Games.on(2, 1, 6), "the right end", 16, 2);
        canonical(Games.on(2, 1, 4), "the left end", 16, 2);
        canonical(Games.on(2, 1, 5), "the middle", 32, 4);
        canonical(Games.on(2, 1, 3), "below the right box", 1, 1);
        canonical(Games.on(2, 1, 1, 3), "above and below the right box", 1 + 4, 2);
        canonical(Games.on(2, 1, 1, 2), "a diagonal", 2 + 4, 2);
        canonical(Games.on(1, 2, 6), "the lower right side", 8, 1);
        canonical(Games.on(1, 2, 2), "the bottom", 1, 2);
        canonical(Games.allBut(3, 2), "all lines on 3 x 2", (1L << 17) - 1, 4);
    }

    private static void changesWithTheBoard() {
        BoxesGame game = Games.on(2, 1, 4);
        Check.same("P25 on 2 x 1", game.canonical(), 16);
        game.begin(1, 2);
        game.draw(4);
        Check.same("P25 on 1 x 2", game.canonical(), 8);
        game.begin(2, 2);
        game.draw(4);
        Check.same("P25 on 2 x 2", game.canonical(), 1);
        Check.same("P26 on 2 x 2", game.symmetries(), 1);
        game.undo();
        Check.same("P25 after undo", game.canonical(), 0);
    }

    private static void followers() {
        Check.same("P27 new 2 x 2", new BoxesGame().followers(), 2);
        Check.same("P27 new 1 x 1", Games.on(1, 1).followers(), 1);
        Check.same("P27 new 2 x 1", Games.on(2, 1).followers(), 3);
        Check.same("P27 new 4 x 4", Games.on(4, 4).followers(), 6);
        Check.same("P27 h00 on 2 x 2", Games.on(2, 2, 0).followers(), 10);
        Check.same("P27 h00 on 1 x 1", Games.on(1, 1, 0).followers(), 2);
        Check.same("P27 the inner lines", Games.on(2, 2, 2, 3, 7, 10).followers(), 1);
        Check.same("P27 one line left", Games.allBut(4, 4, 17).followers(), 1);
        Check.same("P27 two like lines left", Games.allBut(2, 1, 4, 6).followers(), 1);
        Check.same("P27 two other lines left", Games.allBut(2, 1, 0, 6).followers(), 2);
        Check.same("P27 no line left", Games.allBut(3, 3).followers(), 0);
        BoxesGame game = Games.on(4, 4, 0);
        // a quarter turn takes the set of h00 and one line to that of h00 and another one
        Check.same("P27 h00 on 4 x 4", game.followers(), 38);
        Check.same("P27 changes nothing", game.count(3), 1);
    }

    public static void main(String[] args) {
        squareBoards();
        otherBoards();
        changesWithTheBoard();
        followers();
        Check.end();
    }
}
