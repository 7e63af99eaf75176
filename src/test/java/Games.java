/** Makes positions for the tests. */
final class Games {
    /** Columns and rows of all boards. */
    static final int[][] BOARDS = {{1, 1}, {2, 1}, {3, 1}, {4, 1}, {1, 2}, {2, 2}, {3, 2}, {4, 2},
        {1, 3}, {2, 3}, {3, 3}, {4, 3}, {1, 4}, {2, 4}, {3, 4}, {4, 4}};

    private Games() {
    }

    static BoxesGame on(int columns, int rows, int... lines) {
        BoxesGame game = new BoxesGame();
        game.begin(columns, rows);
        for (int line : lines) {
            game.draw(line);
        }
        return game;
    }

    /** All lines are drawn, in ascending order, but these. */
    static BoxesGame allBut(int columns, int rows, int... open) {
        BoxesGame game = on(columns, rows);
        int lines = game.count(2);
        for (int line = 0; line < lines; line++) {
            boolean stays = false;
            for (int other : open) {
                stays |= other == line;
            }
            if (!stays) {
                game.draw(line);
            }
        }
        return game;
    }

    static BoxesGame full(int columns, int rows) {
        return allBut(columns, rows);
    }

    /** Box 0 is complete, box 1 can be taken, box 5 is thin; two lines can be loaded. */
    static BoxesGame middle() {
        BoxesGame game = on(3, 2, 0, 3, 9, 10, 1, 4, 8, 16);
        type(game, "h20,v11");
        return game;
    }

    /** The beginning of a text of lines that all boards have. */
    static String text(int length) {
        return "h00,".repeat(length / 4 + 1).substring(0, length);
    }

    static void type(BoxesGame game, String text) {
        game.clearInput();
        for (int i = 0; i < text.length(); i++) {
            game.append(text.charAt(i));
        }
    }
}
