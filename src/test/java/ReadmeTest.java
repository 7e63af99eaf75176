import java.io.IOException;
import java.nio.file.Files;
import java.nio.file.Path;
import java.util.regex.Pattern;

/** The game in README.md: each call stands there with the answer that the class gives. */
public final class ReadmeTest {
    private final String readme;

    private ReadmeTest(String readme) {
        this.readme = readme;
    }

    private void answers(String call, int due, int got) {
        Check.same(call, got, due);
        String written = "(?s).*\\n" + Pattern.quote(call + ";") + " +// " + due + "\\b.*";
        Check.same(call + " in README.md", readme.matches(written), true);
    }

    private void play() {
        BoxesGame game = new BoxesGame();
        answers("game.begin(3, 2)", 17, game.begin(3, 2));
        answers("game.line(true, 1, 1)", 14, game.line(true, 1, 1));
        answers("game.draw(0)", 0, game.draw(0));
        answers("game.count(5)", 1, game.count(5));
        for (char c : "h10,v00".toCharArray()) {
            game.append(c);
        }
        answers("game.load()", 0, game.load());
        answers("game.kind(5)", 2, game.kind(5));
        answers("game.follow(1, 8)", 8, game.follow(1, 8));
        answers("game.control(0)", 2, game.control(0));
        answers("game.prediction()", 2, game.prediction());
        answers("game.outcome()", 6, game.outcome());
        answers("game.advice(2)", 10, game.advice(2));
        answers("game.playout(2, 0, 0)", -6, game.playout(2, 0, 0));
        answers("game.follow(2, 40)", 6, game.follow(2, 40));
        answers("game.score(1)", 6, game.score(1));
        answers("game.undo()", 16, game.undo());
    }

    public static void main(String[] args) throws IOException {
        new ReadmeTest(Files.readString(Path.of("README.md"))).play();
        Check.end();
    }
}
