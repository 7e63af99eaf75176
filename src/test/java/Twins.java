import java.util.ArrayList;
import java.util.List;

/** Compares two games by all that they answer, as they stand and when both are played on alike. */
final class Twins {
    interface Maker {
        BoxesGame make();
    }

    interface Call {
        Object on(BoxesGame game);
    }

    private Twins() {
    }

    /** The call throws just this exception, and the game goes on like one that was not called. */
    static void refused(String what, Maker maker, Class<? extends RuntimeException> due, Call call) {
        answersOnly(what, maker, "throws " + due.getSimpleName(), call);
    }

    /** The call gives this answer, and the game goes on like one that was not called. */
    static void answersOnly(String what, Maker maker, Object due, Call call) {
        BoxesGame game = maker.make();
        Check.same(what, Check.answer(() -> call.on(game)), due);
        alike(what, game, maker.make());
    }

    static void alike(String what, BoxesGame game, BoxesGame twin) {
        sameLists(what + ", then", answersOf(game), answersOf(twin));
        sameLists(what + ", then played on", playedOn(game), playedOn(twin));
    }

    private static void sameLists(String what, List<String> got, List<String> want) {
        int at = 0;
        while (at < got.size() && at < want.size() && got.get(at).equals(want.get(at))) {
            at++;
        }
        Check.same(what, at < got.size() ? got.get(at) : "no more", at < want.size() ? want.get(at) : "no more");
    }

    private static void note(List<String> answers, String what, Check.Call call) {
        answers.add(what + " = " + Check.answer(call));
    }

    /** What the calls that change nothing answer. They are few enough for the document's 512 calls. */
    private static List<String> answersOf(BoxesGame game) {
        List<String> answers = new ArrayList<>();
        int lines = game.count(2);
        int moves = game.count(3);
        int boxes = game.count(0) * game.count(1);
        for (int what = 0; what <= 10; what++) {
            int i = what;
            note(answers, "count(" + i + ")", () -> game.count(i));
        }
        note(answers, "score(0)", () -> game.score(0));
        note(answers, "score(1)", () -> game.score(1));
        for (int line = 0; line < lines; line++) {
            int i = line;
            note(answers, "kind(" + i + ")", () -> game.kind(i));
            note(answers, "price(" + i + ")", () -> game.price(i));
        }
        for (int move = 0; move < moves; move++) {
            int i = move;
            note(answers, "drawn(" + i + ")", () -> game.drawn(i));
        }
        for (int box = 0; box < boxes; box++) {
            int i = box;
            note(answers, "owner(" + i + ")", () -> game.owner(i));
            note(answers, "stringOf(" + i + ")", () -> game.stringOf(i));
        }
        noteWhole(game, answers);
        return answers;
    }

    private static void noteWhole(BoxesGame game, List<String> answers) {
        for (int what = 0; what <= 5; what++) {
            int i = what;
            note(answers, "control(" + i + ")", () -> game.control(i));
        }
        note(answers, "prediction()", game::prediction);
        note(answers, "outcome()", game::outcome);
        note(answers, "canonical()", game::canonical);
        note(answers, "symmetries()", game::symmetries);
        note(answers, "followers()", game::followers);
        note(answers, "safeMoves()", game::safeMoves);
        note(answers, "firstError()", game::firstError);
        for (int style = 0; style <= 2; style++) {
            int i = style;
            note(answers, "advice(" + i + ")", () -> game.advice(i));
            note(answers, "playout(" + i + ",0,0)", () -> game.playout(i, 0, 0));
            note(answers, "playout(1," + i + ",2)", () -> game.playout(1, i, 2));
        }
        note(answers, "meanDifference(2,3)", () -> game.meanDifference(2, 3));
        note(answers, "digest()", game::digest);
    }

    /** What is answered when the game is played on, and when all moves are undone. */
    private static List<String> playedOn(BoxesGame game) {
        List<String> answers = new ArrayList<>();
        note(answers, "load()", game::load);
        note(answers, "digest() after load()", game::digest);
        note(answers, "append(118)", () -> game.append(118));
        note(answers, "follow(2,3)", () -> game.follow(2, 3));
        note(answers, "digest() after follow(2,3)", game::digest);
        note(answers, "clearInput()", game::clearInput);
        int moves = game.count(3);
        for (int i = 0; i < moves; i++) {
            note(answers, "undo()", game::undo);
            note(answers, "count(5)", () -> game.count(5));
            note(answers, "count(4)", () -> game.count(4));
        }
        note(answers, "undo() once more", game::undo);
        note(answers, "digest() at last", game::digest);
        return answers;
    }
}
