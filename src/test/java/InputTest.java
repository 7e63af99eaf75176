/** Promises 6 to 9: append, clearInput, firstError, load. */
public final class InputTest {
    private static void appendCodes() {
        BoxesGame game = new BoxesGame();
        Check.same("P6 append(32)", game.append(32), 1);
        Check.same("P6 append(126)", game.append(126), 2);
        Check.same("P6 append(104)", game.append(104), 3);
        for (int code : new int[] {31, 127, 0, -1, 256 + 104, Integer.MIN_VALUE, Integer.MAX_VALUE}) {
            Check.raises(game, "P6 append(" + code + ")", IllegalArgumentException.class, () -> game.append(code));
        }
    }

    private static void appendUntilFull() {
        BoxesGame game = new BoxesGame();
        for (int i = 0; i < 60; i++) {
            Check.same("P6 append number " + i, game.append("h00,".charAt(i % 4)), i + 1);
        }
        Check.raises(game, "P6 append to a full buffer", IllegalStateException.class, () -> game.append(104));
        Check.raises(game, "P6 wrong code and full buffer", IllegalArgumentException.class, () -> game.append(31));
        Check.same("P8 firstError() of a full buffer", game.firstError(), 60);
        Check.same("P7 clearInput()", game.clearInput(), 60);
        Check.same("P6 append after clearInput", game.append(104), 1);
    }

    private static void clear() {
        BoxesGame game = new BoxesGame();
        Check.same("P7 empty", game.clearInput(), 0);
        Games.type(game, "xyz");
        game.draw(0);
        Check.same("P7 clearInput()", game.clearInput(), 3);
        Check.same("P7 again", game.clearInput(), 0);
        Check.same("P7 lines stay", game.count(3), 1);
        Check.same("P8 no error in an empty buffer", game.firstError(), 0);
    }

    private static void errorAt(BoxesGame game, String text, int due) {
        Games.type(game, text);
        Check.same("P8 firstError of " + text, game.firstError(), due);
    }

    private static void errors() {
        BoxesGame game = Games.on(3, 2);
        String[] good = {"h", "h0", "h00", "h00,", "h22", "v31", "v00,h10", "h00,h00", "v31,h22,v"};
        for (String text : good) {
            errorAt(game, text, text.length());
        }
        errorAt(game, "H00", 0);
        errorAt(game, ",", 0);
        errorAt(game, " h00", 0);
        errorAt(game, "0", 0);
        errorAt(game, "h3", 1);
        errorAt(game, "hv", 1);
        errorAt(game, "h,", 1);
        errorAt(game, "v30", 3);
        errorAt(game, "v4", 1);
        errorAt(game, "h9", 1);
        errorAt(game, "h/", 1);
        errorAt(game, "h:", 1);
        errorAt(game, "h23", 2);
        errorAt(game, "v32", 2);
        errorAt(game, "v0 ", 2);
        errorAt(game, "h2/", 2);
        errorAt(game, "h00h", 3);
        errorAt(game, "h000", 3);
        errorAt(game, "h00;", 3);
        errorAt(game, "h00,,", 4);
        errorAt(game, "h00,x", 4);
        errorAt(game, "h00,v02", 6);
        errorAt(game, "h00,h30,q", 5);
    }

    private static void errorsFollowTheBoard() {
        BoxesGame game = Games.on(4, 4);
        Games.type(game, "h34,v43");
        Check.same("P8 on 4 x 4", game.firstError(), 7);
        game.begin(4, 3);
        Check.same("P8 on 4 x 3", game.firstError(), 2);
        game.begin(3, 4);
        Check.same("P8 on 3 x 4", game.firstError(), 1);
        game.begin(4, 4);
        Check.same("P8 on 4 x 4 again", game.firstError(), 7);
        game.draw(game.line(false, 3, 4));
        Check.same("P8 a drawn line is no error", game.firstError(), 7);
    }

    private static void loadLines() {
        BoxesGame game = new BoxesGame();
        Games.type(game, "v10,h01,v00,h00,h02");
        Check.same("P9 load()", game.load(), 1);
        int[] due = {7, 2, 6, 0, 4};
        Check.same("P9 moves", game.count(3), 5);
        for (int i = 0; i < due.length; i++) {
            Check.same("P9 drawn(" + i + ")", game.drawn(i), due[i]);
        }
        Check.same("P9 owner", game.owner(0), 1);
        Check.same("P9 player to move", game.count(5), 0);
        Check.same("P9 buffer is clear", game.clearInput(), 0);
        BoxesGame two = Games.allBut(2, 1, 4, 5);
        Games.type(two, "v10,v00");
        Check.same("P9 load() of two boxes", two.load(), 2);
        BoxesGame one = Games.on(1, 1);
        Games.type(one, "h01");
        Check.same("P9 load() of one line", one.load(), 0);
    }

    private static void loadFifteenLines() {
        BoxesGame game = Games.on(4, 4);
        StringBuilder text = new StringBuilder();
        for (int i = 0; i < 15; i++) {
            text.append(i == 0 ? "h" : ",h").append(i % 4).append(i / 4);
        }
        Games.type(game, text.toString());
        Check.same("P9 load() of 59 characters", game.load(), 0);
        Check.same("P9 fifteen lines", game.count(3), 15);
    }

    private static void loadWrong() {
        BoxesGame game = Games.on(2, 2, 0);
        String[] incomplete = {"", "h", "h1", "h10,", "h10,v", "h10,v0", "v20,v2", "h10;", "h20", "v02", "H10", "h10,,",
            "h00,", "h00,h00,", "h00,x"};
        for (String text : incomplete) {
            Games.type(game, text);
            Check.raises(game, "P9 load() of " + text, IllegalStateException.class, () -> game.load());
        }
        String[] drawn = {"h00", "h10,h00", "h10,h10", "v00,v10,v00", "h00,h00"};
        for (String text : drawn) {
            Games.type(game, text);
            Check.raises(game, "P9 load() of " + text, IllegalArgumentException.class, () -> game.load());
        }
        Check.same("P9 nothing is drawn", game.count(3), 1);
        Check.same("P9 the buffer stays", game.clearInput(), 7);
        game.undo();
        Games.type(game, "h00");
        Check.same("P9 after undo", game.load(), 0);
    }

    public static void main(String[] args) {
        appendCodes();
        appendUntilFull();
        clear();
        errors();
        errorsFollowTheBoard();
        loadLines();
        loadFifteenLines();
        loadWrong();
        Check.end();
    }
}
