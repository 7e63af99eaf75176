/** The examples 1 to 4 of the document: each on a new object, and no call but those of the example. */
public final class ExamplesTest {
    private static void raises(String what, String due, Check.Call call) {
        Check.same(what, Check.answer(call), "throws " + due);
    }

    private static void singleBox() {
        BoxesGame game = new BoxesGame();
        Check.same("1: begin(1, 1)", game.begin(1, 1), 4);
        Check.same("1: draw(0)", game.draw(0), 0);
        Check.same("1: draw(1)", game.draw(1), 0);
        Check.same("1: kind(2)", game.kind(2), 3);
        Check.same("1: draw(2)", game.draw(2), 0);
        Check.same("1: kind(3)", game.kind(3), 1);
        Check.same("1: draw(3)", game.draw(3), 1);
        Check.same("1: score(1)", game.score(1), 1);
        Check.same("1: count(5)", game.count(5), 1);
        Check.same("1: advice(0)", game.advice(0), -1);
    }

    private static void chainOfThree() {
        BoxesGame game = new BoxesGame();
        Check.same("2: begin(3, 1)", game.begin(3, 1), 10);
        for (int line = 0; line <= 5; line++) {
            Check.same("2: draw(" + line + ")", game.draw(line), 0);
        }
        Check.same("2: control(0)", game.control(0), 1);
        Check.same("2: prediction()", game.prediction(), 3);
        Check.same("2: price(6)", game.price(6), 3);
        Check.same("2: outcome()", game.outcome(), -3);
    }

    private static void linesErrorsAndSymmetry() {
        BoxesGame game = new BoxesGame();
        Check.same("3: line(true, 2, 1)", game.line(true, 2, 1), 11);
        raises("3: line(true, 2, 2)", "IndexOutOfBoundsException", () -> game.line(true, 2, 2));
        raises("3: draw(12)", "IndexOutOfBoundsException", () -> game.draw(12));
        Check.same("3: draw(0)", game.draw(0), 0);
        raises("3: draw(0) again", "IllegalStateException", () -> game.draw(0));
        Check.same("3: symmetries()", game.symmetries(), 1);
        Check.same("3: followers()", game.followers(), 10);
        Check.same("3: canonical()", game.canonical(), 1);
        Check.same("3: undo()", game.undo(), 0);
        raises("3: undo() again", "IllegalStateException", () -> game.undo());
    }

    private static void linesAsText() {
        BoxesGame game = new BoxesGame();
        int[] codes = {104, 48, 48, 44, 118, 48};
        for (int i = 0; i < codes.length; i++) {
            Check.same("4: append(" + codes[i] + ")", game.append(codes[i]), i + 1);
        }
        Check.same("4: firstError()", game.firstError(), 6);
        raises("4: load()", "IllegalStateException", () -> game.load());
        Check.same("4: append(48)", game.append(48), 7);
        Check.same("4: load() again", game.load(), 0);
        Check.same("4: count(3)", game.count(3), 2);
    }

    public static void main(String[] args) {
        singleBox();
        chainOfThree();
        linesErrorsAndSymmetry();
        linesAsText();
        Check.end();
    }
}
