/** The boundary cases of promises 6 to 9; each test has its sentence of the document above it. */
public final class InputEdgesTest {
    private static BoxesGame typed(int columns, int rows, String text, int... lines) {
        BoxesGame game = Games.on(columns, rows, lines);
        Games.type(game, text);
        return game;
    }

    /** "IllegalArgumentException if code is not 32 to 126" */
    private static void codes() {
        for (int code = 32; code <= 126; code++) {
            Check.same("P6 append(" + code + ")", new BoxesGame().append(code), 1);
        }
        int[] wrong = {31, 127, 30, 128, 0, -1, 10, 256 + 32, 65536 + 104, Integer.MIN_VALUE, Integer.MAX_VALUE};
        for (int code : wrong) {
            Twins.refused("P6 append(" + code + ")", Games::middle, IllegalArgumentException.class,
                game -> game.append(code));
            Twins.refused("P6 append(" + code + ") to an empty buffer", BoxesGame::new, IllegalArgumentException.class,
                game -> game.append(code));
        }
    }

    /** "The input buffer has at most 60 characters." */
    private static void sixtyCharacters() {
        BoxesGame game = new BoxesGame();
        for (int length = 1; length <= 60; length++) {
            Check.same("P6 append to " + (length - 1), game.append('v'), length);
        }
        for (int length : new int[] {58, 59}) {
            Check.same("P6 append to " + length, typed(2, 2, Games.text(length)).append(32), length + 1);
        }
    }

    /** "IllegalStateException if the buffer has 60 characters" */
    private static void fullBuffer() {
        for (int code : new int[] {32, 104, 126}) {
            Twins.refused("P6 append(" + code + ") to 60", () -> typed(2, 2, Games.text(60)),
                IllegalStateException.class, game -> game.append(code));
        }
        BoxesGame game = typed(2, 2, Games.text(60));
        game.clearInput();
        Check.same("P6 append when cleared", game.append(104), 1);
    }

    /** "If several exceptions apply, the one that is named first in the throws clause is thrown." */
    private static void wrongCodeToFullBuffer() {
        for (int code : new int[] {31, 127}) {
            Twins.refused("P6 append(" + code + ") to 60", () -> typed(2, 2, Games.text(60)),
                IllegalArgumentException.class, game -> game.append(code));
        }
    }

    /** "Clears the input buffer. Returns the length that it had." */
    private static void clear() {
        for (int length : new int[] {0, 1, 59, 60}) {
            BoxesGame game = typed(3, 2, Games.text(length), 4, 8);
            Check.same("P7 clearInput() of " + length, game.clearInput(), length);
            Check.same("P7 clearInput() of none", game.clearInput(), 0);
            Twins.alike("P7 nothing but the buffer", game, Games.on(3, 2, 4, 8));
        }
    }

    private static void errorAt(BoxesGame game, String text, int due) {
        Games.type(game, text);
        Check.same("P8 firstError() of '" + text + "' on " + game.count(0) + " x " + game.count(1),
            game.firstError(), due);
    }

    /** "Returns the index of the first character that is a syntax error; the length of the buffer if there is none." */
    private static void noError() {
        for (int[] board : Games.BOARDS) {
            for (int length = 0; length <= 60; length++) {
                errorAt(Games.on(board[0], board[1]), Games.text(length), length);
            }
        }
    }

    /** The same, with the error at each index. */
    private static void oneError() {
        for (int at = 0; at < 60; at++) {
            errorAt(new BoxesGame(), Games.text(at) + "~", at);
            errorAt(new BoxesGame(), Games.text(at) + "~" + Games.text(60).substring(at + 1), at);
        }
    }

    /** "the first digit if no line has this x" */
    private static void firstDigit() {
        for (int[] board : Games.BOARDS) {
            for (int x = 0; x <= 9; x++) {
                BoxesGame game = Games.on(board[0], board[1]);
                errorAt(game, "h" + x, x < board[0] ? 2 : 1);
                errorAt(game, "v" + x, x <= board[0] ? 2 : 1);
                errorAt(game, "v00,h" + x + "0", x < board[0] ? 7 : 5);
                errorAt(game, "h00,v" + x + "0", x <= board[0] ? 7 : 5);
            }
        }
    }

    /** "the second digit if no line has this x and y" */
    private static void secondDigit() {
        for (int[] board : Games.BOARDS) {
            for (int y = 0; y <= 9; y++) {
                BoxesGame game = Games.on(board[0], board[1]);
                errorAt(game, "h0" + y, y <= board[1] ? 3 : 2);
                errorAt(game, "h" + (board[0] - 1) + y, y <= board[1] ? 3 : 2);
                errorAt(game, "v0" + y, y < board[1] ? 3 : 2);
                errorAt(game, "v" + board[0] + y + ",", y < board[1] ? 4 : 2);
            }
        }
    }

    /** "a character that these rules do not allow at its place is a syntax error" */
    private static void eachCharacterAtEachPlace() {
        String[] allowed = {"hv", "012", "01", ","};
        for (int place = 0; place < 8; place++) {
            for (int code = 32; code <= 126; code++) {
                boolean good = allowed[place % 4].indexOf(code) >= 0;
                // before the digits stands a v, which has x 0 to 2 and y 0 to 1
                errorAt(new BoxesGame(), "v00,v00,".substring(0, place) + (char) code, good ? place + 1 : place);
            }
        }
    }

    /** "The text of a sequence of lines consists of one or more lines separated by commas" */
    private static void oneOrMore() {
        Twins.refused("P9 load() of no line", () -> Games.on(4, 4), IllegalStateException.class, BoxesGame::load);
        Twins.refused("P9 load() of a comma", () -> typed(4, 4, ","), IllegalStateException.class, BoxesGame::load);
        BoxesGame one = typed(4, 4, "v43");
        Check.same("P9 load() of one line", one.load(), 0);
        Check.same("P9 the one line", one.drawn(0), 39);
        StringBuilder text = new StringBuilder("h00");
        for (int i = 1; i < 15; i++) {
            text.append(",h").append(i % 4).append(i / 4);
        }
        BoxesGame most = typed(4, 4, text.toString());
        Check.same("P9 load() of fifteen lines", most.load(), 0);
        Check.same("P9 the fifteen lines", most.count(3), 15);
        Check.same("P9 the last one of them", most.drawn(14), 14);
        text.append(',');
        Twins.refused("P9 load() of 60 characters", () -> typed(4, 4, text.toString()), IllegalStateException.class,
            BoxesGame::load);
    }

    /** "Draws the lines in the buffer, in their order, and clears the buffer." */
    private static void wholeBoards() {
        BoxesGame box = typed(1, 1, "v10,v00,h01,h00");
        Check.same("P9 load() of a whole box", box.load(), 1);
        Check.same("P9 no line is left", box.advice(0), -1);
        Check.same("P9 the box is of the last one", box.owner(0), 1);
        Check.same("P9 the buffer is clear", box.clearInput(), 0);
        BoxesGame two = typed(2, 1, "h00,h10,h01,h11,v00,v20,v10");
        Check.same("P9 load() of two boxes at once", two.load(), 2);
        Check.same("P9 both are of who began", two.score(0), 2);
        BoxesGame last = Games.allBut(4, 4, 39);
        Games.type(last, "v43");
        Check.same("P9 load() of the last line", last.load(), 1);
        Check.same("P9 all are drawn", last.count(3), 40);
        BoxesGame again = Games.on(2, 2);
        for (int line = 0; line < 12; line++) {
            Games.type(again, (line < 6 ? "h" : "v") + (line < 6 ? line % 2 + "" + line / 2
                : (line - 6) % 3 + "" + (line - 6) / 3));
            again.load();
            Check.same("P9 load() of line " + line, again.drawn(line), line);
        }
    }

    /** "IllegalStateException if the buffer is not a complete text" */
    private static void incomplete() {
        String good = "v21,h10,v01";
        for (int length = 0; length <= good.length(); length++) {
            String text = good.substring(0, length);
            if (length % 4 == 3) {
                Check.same("P9 load() of '" + text + "'", typed(2, 2, text).load(), 0);
            } else {
                loadRefused(text, IllegalStateException.class);
            }
        }
        // the last character inside a range, and the first one outside it
        Check.same("P9 load() of 'h12'", typed(2, 2, "h12").load(), 0);
        for (String text : new String[] {"h13", "h22", "v22", "v31", "g12", "i12", "u00", "w00", "H12", "h/2", "h:2",
            "h1/", "h1:", " h12", "h12 ", "h12,h11 ", "h12;h11", "h12,,h11", "h12,h11,", "h12h11"}) {
            loadRefused(text, IllegalStateException.class);
        }
    }

    private static void loadRefused(String text, Class<? extends RuntimeException> due) {
        Twins.refused("P9 load() of '" + text + "'", () -> typed(2, 2, text, 0, 11), due, BoxesGame::load);
    }

    /** "IllegalArgumentException if a line is drawn already, or occurs twice" */
    private static void drawnOrTwice() {
        // h00 and v21 are drawn
        for (String text : new String[] {"h00", "v21", "h00,h10", "h10,h00", "h10,v00,v21", "v21,h00",
            "h10,h10", "h10,h01,h10", "h10,h01,h01", "h10,h10,h01", "h00,h00"}) {
            loadRefused(text, IllegalArgumentException.class);
        }
        Twins.refused("P9 load() at the end", () -> {
            BoxesGame game = Games.full(2, 2);
            Games.type(game, "h10");
            return game;
        }, IllegalArgumentException.class, BoxesGame::load);
        BoxesGame undone = typed(2, 2, "h00", 0);
        undone.undo();
        Check.same("P9 load() of a line that was undone", undone.load(), 0);
    }

    /** "If several exceptions apply, the one that is named first in the throws clause is thrown." */
    private static void incompleteAndDrawn() {
        for (String text : new String[] {"h00,", "h00,x", "h10,h10,", "h00,h", "h00,h00,h0", "h00h00", "h00,h23"}) {
            loadRefused(text, IllegalStateException.class);
        }
    }

    /** "Whether a line is drawn already, or occurs twice, does not matter for that." */
    private static void drawnIsNoSyntaxError() {
        errorAt(Games.on(2, 2, 0), "h00,h10,h10", 11);
        errorAt(Games.full(2, 2), "h00,v21", 7);
        errorAt(Games.full(2, 2), "v21,v21,v21,", 12);
        errorAt(Games.full(2, 2), "v21,v22", 6);
    }

    /** "The line must exist on the present board." */
    private static void presentBoard() {
        for (int[] board : Games.BOARDS) {
            String lastHorizontal = "h" + (board[0] - 1) + board[1];
            String lastVertical = "v" + board[0] + (board[1] - 1);
            BoxesGame game = Games.on(4, 4);
            Games.type(game, lastHorizontal + "," + lastVertical);
            game.begin(board[0], board[1]);
            Check.same("P8 the last lines of the board", game.firstError(), 7);
            for (int[] less : new int[][] {{board[0] - 1, board[1]}, {board[0], board[1] - 1}}) {
                if (less[0] >= 1 && less[1] >= 1) {
                    game.begin(less[0], less[1]);
                    Check.same("P8 beyond the board", game.firstError(), less[0] < board[0] ? 1 : 2);
                }
            }
            game.begin(board[0], board[1]);
            int lines = game.count(2);
            Check.same("P9 load() of the last lines", Check.answer(game::load), 0);
            Check.same("P9 the last horizontal line", game.drawn(0), lines - board[1] * (board[0] + 1) - 1);
            Check.same("P9 the last vertical line", game.drawn(1), lines - 1);
        }
    }

    public static void main(String[] args) {
        codes();
        sixtyCharacters();
        fullBuffer();
        wrongCodeToFullBuffer();
        clear();
        noError();
        oneError();
        firstDigit();
        secondDigit();
        eachCharacterAtEachPlace();
        oneOrMore();
        wholeBoards();
        incomplete();
        drawnOrTwice();
        incompleteAndDrawn();
        drawnIsNoSyntaxError();
        presentBoard();
        Check.end();
    }
}
