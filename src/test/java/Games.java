/** Makes positions for the tests. */
final class Games {
    private Games() {
    }

    static BoxesGame on(int columns, int rows, int... lines) {
        BoxesGame game = new BoxesGame();
        game.begin(columns, rows);
        for (int line : lines) {
            game.draw(line);
        }
        return game;
    }

    /** All lines are drawn, in ascending order, but these. */
    static BoxesGame allBut(int columns, int rows, int... open) {
        BoxesGame game = on(columns, rows);
        for (int line = 0; line < game.count(2); line++) {
            boolean stays = false;
            for (int other : open) {
                stays |= other == line;
            }
            if (!stays) {
                game.draw(line);
            }
        }
        return game;
    }

    static void type(BoxesGame game, String text) {
        game.clearInput();
        for (int i = 0; i < text.length(); i++) {
            game.append(text.charAt(i));
        }
    }
}
