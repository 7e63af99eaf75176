/** "A call that throws an exception changes nothing.": all refused calls, one after the other on one object. */
public final class RefusalsTest {
    private static final Class<? extends RuntimeException> INDEX = IndexOutOfBoundsException.class;
    private static final Class<? extends RuntimeException> STATE = IllegalStateException.class;
    private static final Class<? extends RuntimeException> ARGUMENT = IllegalArgumentException.class;

    private final String name;
    private final BoxesGame game;

    private RefusalsTest(String name, BoxesGame game) {
        this.name = name;
        this.game = game;
    }

    private void refused(String what, Class<? extends RuntimeException> due, Check.Call call) {
        Check.same(what + " " + name, Check.answer(call), "throws " + due.getSimpleName());
    }

    /** Calls that are refused in every position, with an argument so far outside of its range. */
    private void always(int distance) {
        refused("begin columns below", ARGUMENT, () -> game.begin(1 - distance, 4));
        refused("begin columns above", ARGUMENT, () -> game.begin(4 + distance, 1));
        refused("begin rows below", ARGUMENT, () -> game.begin(4, 1 - distance));
        refused("begin rows above", ARGUMENT, () -> game.begin(1, 4 + distance));
        refused("follow style below", ARGUMENT, () -> game.follow(-distance, 1));
        refused("follow style above", ARGUMENT, () -> game.follow(2 + distance, 40));
        refused("follow moves below", ARGUMENT, () -> game.follow(0, 1 - distance));
        refused("follow moves above", ARGUMENT, () -> game.follow(2, 40 + distance));
        refused("append below", ARGUMENT, () -> game.append(32 - distance));
        refused("append above", ARGUMENT, () -> game.append(126 + distance));
        refused("count below", ARGUMENT, () -> game.count(-distance));
        refused("count above", ARGUMENT, () -> game.count(10 + distance));
        refused("score below", ARGUMENT, () -> game.score(-distance));
        refused("score above", ARGUMENT, () -> game.score(1 + distance));
        refused("control below", ARGUMENT, () -> game.control(-distance));
        refused("control above", ARGUMENT, () -> game.control(5 + distance));
        refused("advice below", ARGUMENT, () -> game.advice(-distance));
        refused("advice above", ARGUMENT, () -> game.advice(2 + distance));
        refused("playout zero below", ARGUMENT, () -> game.playout(-distance, 0, 0));
        refused("playout zero above", ARGUMENT, () -> game.playout(2 + distance, 2, 2));
        refused("playout one below", ARGUMENT, () -> game.playout(0, -distance, 0));
        refused("playout one above", ARGUMENT, () -> game.playout(2, 2 + distance, 2));
        refused("playout what below", ARGUMENT, () -> game.playout(0, 0, -distance));
        refused("playout what above", ARGUMENT, () -> game.playout(2, 2, 2 + distance));
        refused("meanDifference games below", ARGUMENT, () -> game.meanDifference(1 - distance, 0));
        refused("meanDifference games above", ARGUMENT, () -> game.meanDifference(20 + distance, 0));
        refused("meanDifference seed below", ARGUMENT, () -> game.meanDifference(20, -distance));
    }

    /** Calls with lines, moves, boxes and strings that there are not. */
    private void beyond(int distance) {
        int columns = game.count(0);
        int rows = game.count(1);
        int lastLine = game.count(2) - 1;
        int lastBox = columns * rows - 1;
        int lastMove = game.count(3) - 1;
        int lastString = game.count(10) - 1;
        refused("line x below", INDEX, () -> game.line(false, -distance, 0));
        refused("line x above", INDEX, () -> game.line(false, columns - 1 + distance, 0));
        refused("line y below", INDEX, () -> game.line(false, 0, -distance));
        refused("line y above", INDEX, () -> game.line(false, 0, rows + distance));
        refused("vertical line x below", INDEX, () -> game.line(true, -distance, 0));
        refused("vertical line x above", INDEX, () -> game.line(true, columns + distance, 0));
        refused("vertical line y below", INDEX, () -> game.line(true, 0, -distance));
        refused("vertical line y above", INDEX, () -> game.line(true, 0, rows - 1 + distance));
        for (int line : new int[] {-distance, lastLine + distance}) {
            refused("draw(" + line + ")", INDEX, () -> game.draw(line));
            refused("kind(" + line + ")", INDEX, () -> game.kind(line));
            refused("price(" + line + ")", INDEX, () -> game.price(line));
            refused("worth(" + line + ")", INDEX, () -> game.worth(line));
        }
        for (int box : new int[] {-distance, lastBox + distance}) {
            refused("owner(" + box + ")", INDEX, () -> game.owner(box));
            refused("openSides(" + box + ")", INDEX, () -> game.openSides(box));
            refused("stringOf(" + box + ")", INDEX, () -> game.stringOf(box));
        }
        refused("drawn below", INDEX, () -> game.drawn(-distance));
        refused("drawn above", INDEX, () -> game.drawn(lastMove + distance));
        refused("string below", INDEX, () -> game.string(-distance, 0));
        refused("string above", INDEX, () -> game.string(lastString + distance, 4));
        refused("string above, what below", INDEX, () -> game.string(lastString + distance, -distance));
        refused("string below, what above", INDEX, () -> game.string(-distance, 4 + distance));
        if (lastString >= 0) {
            refused("string what below", ARGUMENT, () -> game.string(0, -distance));
            refused("string what above", ARGUMENT, () -> game.string(lastString, 4 + distance));
        }
    }

    /** Calls that only this position refuses. */
    private void here(int buffer) {
        int open = game.count(2) - game.count(3);
        if (game.count(3) == 0) {
            refused("undo()", STATE, game::undo);
        } else {
            int line = game.drawn(game.count(3) - 1);
            refused("draw() of a drawn line", STATE, () -> game.draw(line));
            refused("price() of a drawn line", STATE, () -> game.price(line));
            refused("worth() of a drawn line", STATE, () -> game.worth(line));
        }
        if (open > 12) {
            int line = game.advice(0);
            refused("outcome()", STATE, game::outcome);
            refused("worth()", STATE, () -> game.worth(line));
        }
        if (game.count(10) > 10) {
            refused("prediction()", STATE, game::prediction);
        }
        if (buffer == 60) {
            refused("append()", STATE, () -> game.append(104));
        }
        if (buffer % 4 != 3) {
            refused("load() of an incomplete text", STATE, game::load);
        }
    }

    private static void all(String name, Twins.Maker maker, int buffer) {
        for (int distance : new int[] {1, 64, Integer.MAX_VALUE - 200}) {
            RefusalsTest test = new RefusalsTest(name, maker.make());
            test.always(distance);
            test.beyond(distance);
            test.here(buffer);
            Twins.alike("all refused calls " + name, test.game, maker.make());
        }
    }

    private static BoxesGame typed(BoxesGame game, int length) {
        Games.type(game, Games.text(length));
        return game;
    }

    public static void main(String[] args) {
        all("at first", BoxesGame::new, 0);
        all("in the middle", Games::middle, 7);
        for (int[] board : Games.BOARDS) {
            all("with no line", () -> Games.on(board[0], board[1]), 0);
            all("with one line", () -> typed(Games.on(board[0], board[1], 1), 3), 3);
            all("with all lines", () -> typed(Games.full(board[0], board[1]), 5), 5);
        }
        all("with 13 open lines", () -> typed(Games.on(3, 2, 16, 0, 7, 4), 60), 60);
        all("with fourteen strings", () -> typed(Games.allBut(4, 4,
            0, 1, 2, 3, 16, 17, 18, 19, 20, 24, 25, 29, 30, 34, 35, 39, 27, 32), 60), 60);
        Check.end();
    }
}
