/** "A call that throws an exception changes nothing.": all refused calls, one after the other on one object. */
public final class RefusalsTest {
    private static final Class<? extends RuntimeException> INDEX = IndexOutOfBoundsException.class;
    private static final Class<? extends RuntimeException> STATE = IllegalStateException.class;
    private static final Class<? extends RuntimeException> ARGUMENT = IllegalArgumentException.class;

    private final String name;
    private final Twins.Maker maker;
    private final BoxesGame game;

    private RefusalsTest(String name, Twins.Maker maker) {
        this.name = name;
        this.maker = maker;
        game = maker.make();
    }

    private void refused(String what, Class<? extends RuntimeException> due, Check.Call call) {
        Check.same(what + " " + name, Check.answer(call), "throws " + due.getSimpleName());
    }

    /** Calls that are refused in every position. */
    private void always(int below, int above) {
        refused("begin columns below", ARGUMENT, () -> game.begin(1 - below, 4));
        refused("begin columns above", ARGUMENT, () -> game.begin(4 + above, 1));
        refused("begin rows below", ARGUMENT, () -> game.begin(4, 1 - below));
        refused("begin rows above", ARGUMENT, () -> game.begin(1, 4 + above));
        refused("follow style below", ARGUMENT, () -> game.follow(-below, 1));
        refused("follow style above", ARGUMENT, () -> game.follow(2 + above, 40));
        refused("follow moves below", ARGUMENT, () -> game.follow(0, 1 - below));
        refused("follow moves above", ARGUMENT, () -> game.follow(2, 40 + above));
        refused("append below", ARGUMENT, () -> game.append(32 - below));
        refused("append above", ARGUMENT, () -> game.append(126 + above));
        refused("count below", ARGUMENT, () -> game.count(-below));
        refused("count above", ARGUMENT, () -> game.count(10 + above));
        refused("score below", ARGUMENT, () -> game.score(-below));
        refused("score above", ARGUMENT, () -> game.score(1 + above));
        refused("control below", ARGUMENT, () -> game.control(-below));
        refused("control above", ARGUMENT, () -> game.control(5 + above));
        refused("advice below", ARGUMENT, () -> game.advice(-below));
        refused("advice above", ARGUMENT, () -> game.advice(2 + above));
        refused("playout zero below", ARGUMENT, () -> game.playout(-below, 0, 0));
        refused("playout zero above", ARGUMENT, () -> game.playout(2 + above, 2, 2));
        refused("playout one below", ARGUMENT, () -> game.playout(0, -below, 0));
        refused("playout one above", ARGUMENT, () -> game.playout(2, 2 + above, 2));
        refused("playout what below", ARGUMENT, () -> game.playout(0, 0, -below));
        refused("playout what above", ARGUMENT, () -> game.playout(2, 2, 2 + above));
        refused("meanDifference games below", ARGUMENT, () -> game.meanDifference(1 - below, 0));
        refused("meanDifference games above", ARGUMENT, () -> game.meanDifference(20 + above, 0));
        refused("meanDifference seed below", ARGUMENT, () -> game.meanDifference(20, -below));
    }

    /** Calls with lines, moves, boxes and strings that there are not. */
    private void beyond(int below, int above) {
        int columns = game.count(0);
        int rows = game.count(1);
        int lastLine = game.count(2) - 1;
        int lastBox = columns * rows - 1;
        int lastMove = game.count(3) - 1;
        int lastString = game.count(10) - 1;
        refused("line x below", INDEX, () -> game.line(false, -below, 0));
        refused("line x above", INDEX, () -> game.line(false, columns - 1 + above, 0));
        refused("line y below", INDEX, () -> game.line(false, 0, -below));
        refused("line y above", INDEX, () -> game.line(false, 0, rows + above));
        refused("vertical line x below", INDEX, () -> game.line(true, -below, 0));
        refused("vertical line x above", INDEX, () -> game.line(true, columns + above, 0));
        refused("vertical line y below", INDEX, () -> game.line(true, 0, -below));
        refused("vertical line y above", INDEX, () -> game.line(true, 0, rows - 1 + above));
        for (int line : new int[] {-below, lastLine + above}) {
            refused("draw(" + line + ")", INDEX, () -> game.draw(line));
            refused("kind(" + line + ")", INDEX, () -> game.kind(line));
            refused("price(" + line + ")", INDEX, () -> game.price(line));
            refused("worth(" + line + ")", INDEX, () -> game.worth(line));
        }
        for (int box : new int[] {-below, lastBox + above}) {
            refused("owner(" + box + ")", INDEX, () -> game.owner(box));
            refused("openSides(" + box + ")", INDEX, () -> game.openSides(box));
            refused("stringOf(" + box + ")", INDEX, () -> game.stringOf(box));
        }
        refused("drawn below", INDEX, () -> game.drawn(-below));
        refused("drawn above", INDEX, () -> game.drawn(lastMove + above));
        refused("string below", INDEX, () -> game.string(-below, 0));
        refused("string above", INDEX, () -> game.string(lastString + above, 4));
        refused("string above, what below", INDEX, () -> game.string(lastString + above, -below));
        refused("string below, what above", INDEX, () -> game.string(-below, 4 + above));
        if (lastString >= 0) {
            refused("string what below", ARGUMENT, () -> game.string(0, -below));
            refused("string what above", ARGUMENT, () -> game.string(lastString, 4 + above));
        }
    }

    /** Calls that only this position refuses. */
    private void here(int buffer) {
        int open = game.count(2) - game.count(3);
        if (game.count(3) == 0) {
            refused("undo()", STATE, game::undo);
        } else {
            int line = game.drawn(game.count(3) - 1);
            refused("draw() of a drawn line", STATE, () -> game.draw(line));
            refused("price() of a drawn line", STATE, () -> game.price(line));
            refused("worth() of a drawn line", STATE, () -> game.worth(line));
        }
        if (open > 12) {
            int line = game.advice(0);
            refused("outcome()", STATE, game::outcome);
            refused("worth()", STATE, () -> game.worth(line));
        }
        if (game.count(10) > 10) {
            refused("prediction()", STATE, game::prediction);
        }
        if (buffer == 60) {
            refused("append()", STATE, () -> game.append(104));
        }
        if (buffer % 4 != 3) {
            refused("load() of an incomplete text", STATE, game::load);
        }
    }

    private static void all(String name, Twins.Maker maker, int buffer) {
        RefusalsTest test = new RefusalsTest(name, maker);
        test.always(1, 1);
        test.beyond(1, 1);
        test.here(buffer);
        test.always(1000, 1000);
        test.beyond(64, 64);
        test.here(buffer);
        test.always(Integer.MAX_VALUE, Integer.MAX_VALUE - 200);
        test.beyond(Integer.MAX_VALUE, Integer.MAX_VALUE - 200);
        Twins.alike("all refused calls " + name, test.game, maker.make());
    }

    private static BoxesGame typed(BoxesGame game, int length) {
        Games.type(game, Games.text(length));
        return game;
    }

    public static void main(String[] args) {
        all("at first", BoxesGame::new, 0);
        all("in the middle", Games::middle, 7);
        for (int[] board : Games.BOARDS) {
            all("with no line", () -> Games.on(board[0], board[1]), 0);
            all("with one line", () -> typed(Games.on(board[0], board[1], 1), 3), 3);
            all("with all lines", () -> typed(Games.full(board[0], board[1]), 5), 5);
        }
        all("with 13 open lines", () -> typed(Games.on(3, 2, 16, 0, 7, 4), 60), 60);
        all("with fourteen strings", () -> typed(Games.allBut(4, 4,
            0, 1, 2, 3, 16, 17, 18, 19, 20, 24, 25, 29, 30, 34, 35, 39, 27, 32), 60), 60);
        Check.end();
    }
}
