import java.util.ArrayList;
import java.util.List;

/** Plays long mixed runs of calls on BoxesGame and on ReferenceGame and compares every answer. */
public final class ReferenceTest {
    private static long random = 1;

    private final BoxesGame game = new BoxesGame();
    private final ReferenceGame reference = new ReferenceGame();
    private final StringBuilder path = new StringBuilder();

    private static int below(int n) {
        random = (random * 6364136223846793005L + 1442695040888963407L);
        return (int) ((random >>> 33) % n);
    }

    private Object both(String what, Check.Call tested, Check.Call due) {
        Object got = Check.answer(tested);
        Check.same(path + " " + what, got, Check.answer(due));
        return got;
    }

    /** A call that may change the state; it is noted for the reports. */
    private void step(String what, Check.Call tested, Check.Call due) {
        both(what, tested, due);
        path.append(' ').append(what);
        both("digest", game::digest, reference::digest);
    }

    private void draw(int line) {
        step("draw(" + line + ")", () -> game.draw(line), () -> reference.draw(line));
    }

    private void drawSomeOpenLine() {
        List<Integer> open = new ArrayList<>();
        for (int line = 0; line < game.count(2); line++) {
            if (game.kind(line) != 0) {
                open.add(line);
            }
        }
        if (open.isEmpty()) {
            step("undo", game::undo, reference::undo);
        } else {
            draw(open.get(below(open.size())));
        }
    }

    private void typeSomething() {
        String text = "hv01234,, h00";
        int amount = 1 + below(6);
        for (int i = 0; i < amount; i++) {
            boolean line = below(3) == 0;
            String typed = line ? "" + "hv".charAt(below(2)) + below(5) + below(5) + ","
                : "" + text.charAt(below(text.length()));
            for (char c : typed.toCharArray()) {
                both("append(" + c + ")", () -> game.append(c), () -> reference.append(c));
            }
            path.append(" \"").append(typed).append('"');
        }
        both("firstError", game::firstError, reference::firstError);
    }

    private void loadGoodText() {
        step("clearInput", game::clearInput, reference::clearInput);
        int amount = 1 + below(5);
        for (int i = 0; i < amount; i++) {
            boolean vertical = below(2) == 0;
            int x = below(game.count(0) + (vertical ? 1 : 0));
            int y = below(game.count(1) + (vertical ? 0 : 1));
            String typed = (i == 0 ? "" : ",") + (vertical ? "v" : "h") + x + y;
            for (char c : typed.toCharArray()) {
                both("append(" + c + ")", () -> game.append(c), () -> reference.append(c));
            }
            path.append(" \"").append(typed).append('"');
        }
        both("firstError", game::firstError, reference::firstError);
        step("load", game::load, reference::load);
    }

    private void change() {
        int style = below(4) - (below(9) == 0 ? 1 : 0);
        int some = below(5) == 0 ? below(44) - 1 : 1 + below(3);
        int line = below(game.count(2) + 4) - 2;
        switch (below(12)) {
            case 0: step("undo", game::undo, reference::undo); break;
            case 1: step("follow(" + style + "," + some + ")", () -> game.follow(style, some),
                        () -> reference.follow(style, some)); break;
            case 2: draw(line); break;
            case 3: typeSomething(); break;
            case 4: loadGoodText(); break;
            case 5: step("load", game::load, reference::load); break;
            default: drawSomeOpenLine(); break;
        }
    }

    private void look() {
        for (int what = -1; what <= 11; what++) {
            int i = what;
            both("count(" + i + ")", () -> game.count(i), () -> reference.count(i));
            both("control(" + i + ")", () -> game.control(i), () -> reference.control(i));
        }
        for (int line = -1; line <= game.count(2); line++) {
            int i = line;
            both("kind(" + i + ")", () -> game.kind(i), () -> reference.kind(i));
            both("price(" + i + ")", () -> game.price(i), () -> reference.price(i));
            both("drawn(" + i + ")", () -> game.drawn(i), () -> reference.drawn(i));
        }
        for (int box = -1; box <= 16; box++) {
            int i = box;
            both("owner(" + i + ")", () -> game.owner(i), () -> reference.owner(i));
            both("openSides(" + i + ")", () -> game.openSides(i), () -> reference.openSides(i));
            both("stringOf(" + i + ")", () -> game.stringOf(i), () -> reference.stringOf(i));
            for (int what = -1; what <= 5; what++) {
                int j = what;
                both("string(" + i + "," + j + ")", () -> game.string(i, j), () -> reference.string(i, j));
            }
        }
        for (int player = -1; player <= 2; player++) {
            int i = player;
            both("score(" + i + ")", () -> game.score(i), () -> reference.score(i));
        }
        both("safeMoves", game::safeMoves, reference::safeMoves);
        both("prediction", game::prediction, reference::prediction);
        both("canonical", game::canonical, reference::canonical);
        both("symmetries", game::symmetries, reference::symmetries);
        both("followers", game::followers, reference::followers);
        both("firstError", game::firstError, reference::firstError);
    }

    private void lookAhead() {
        both("outcome", game::outcome, reference::outcome);
        int line = below(game.count(2) + 2) - 1;
        both("worth(" + line + ")", () -> game.worth(line), () -> reference.worth(line));
        int style = below(5) - 1;
        both("advice(" + style + ")", () -> game.advice(style), () -> reference.advice(style));
        both("advice(2)", () -> game.advice(2), () -> reference.advice(2));
        int zero = below(3);
        int one = below(3);
        for (int what = 0; what <= 2; what++) {
            int i = what;
            both("playout(" + zero + "," + one + "," + i + ")",
                () -> game.playout(zero, one, i), () -> reference.playout(zero, one, i));
        }
        int games = below(22);
        int seed = below(7) == 0 ? -1 : (int) (random >>> 33);
        both("meanDifference(" + games + "," + seed + ")",
            () -> game.meanDifference(games, seed), () -> reference.meanDifference(games, seed));
        both("digest", game::digest, reference::digest);
    }

    private void play(int columns, int rows, int steps) {
        step("begin(" + columns + "," + rows + ")", () -> game.begin(columns, rows), () -> reference.begin(columns, rows));
        look();
        for (int i = 0; i < steps; i++) {
            change();
            if (below(4) == 0) {
                look();
            }
            if (below(game.count(2) - game.count(3) <= 12 ? 3 : 8) == 0) {
                lookAhead();
            }
        }
        look();
        lookAhead();
    }

    public static void main(String[] args) {
        for (int run = 0; run < 2; run++) {
            ReferenceTest test = new ReferenceTest();
            for (int columns = 1; columns <= 4; columns++) {
                for (int rows = 1; rows <= 4; rows++) {
                    test.path.setLength(0);
                    test.play(columns, rows, 20 + 2 * columns * rows);
                }
            }
        }
        Check.end();
    }
}
