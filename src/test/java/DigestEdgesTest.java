import java.math.BigInteger;
import java.util.ArrayList;
import java.util.Arrays;
import java.util.List;

/** The boundary cases of promise 31; each test has its sentence of the document above it. */
public final class DigestEdgesTest {
    /** The hash of these values before anything wraps around. */
    private static BigInteger unwrapped(List<Long> values) {
        BigInteger hash = BigInteger.valueOf(1913);
        for (long value : values) {
            hash = hash.multiply(BigInteger.valueOf(31)).add(BigInteger.valueOf(value));
        }
        return hash;
    }

    private static List<Long> listOf(long... values) {
        List<Long> list = new ArrayList<>();
        for (long value : values) {
            list.add(value);
        }
        return list;
    }

    /** The values that the document names, by what the other calls answer. */
    private static List<Long> valuesOf(BoxesGame game, String buffer, boolean predicted, boolean solved) {
        List<Long> values = new ArrayList<>();
        for (int what = 0; what <= 10; what++) {
            values.add((long) game.count(what));
        }
        values.addAll(listOf(game.score(0), game.score(1)));
        int lines = game.count(2);
        for (int line = 0; line < lines; line++) {
            values.add((long) game.kind(line));
        }
        int moves = game.count(3);
        for (int move = 0; move < moves; move++) {
            values.add((long) game.drawn(move));
        }
        int boxes = game.count(0) * game.count(1);
        for (int box = 0; box < boxes; box++) {
            values.addAll(listOf(game.owner(box), game.stringOf(box)));
        }
        for (int string = 0; string < game.count(10); string++) {
            for (int what = 0; what <= 4; what++) {
                values.add((long) game.string(string, what));
            }
        }
        for (int what = 0; what <= 5; what++) {
            values.add((long) game.control(what));
        }
        if (predicted) {
            values.add((long) game.prediction());
        }
        values.addAll(listOf(game.canonical(), game.symmetries(), game.advice(0), game.advice(1)));
        if (solved) {
            values.add((long) game.outcome());
        }
        values.add((long) buffer.length());
        for (char c : buffer.toCharArray()) {
            values.add((long) c);
        }
        return values;
    }

    private static void hashes(String name, Twins.Maker maker, String buffer, boolean predicted, boolean solved) {
        Twins.Maker typed = () -> {
            BoxesGame game = maker.make();
            Games.type(game, buffer);
            return game;
        };
        long due = unwrapped(valuesOf(typed.make(), buffer, predicted, solved)).longValue();
        Twins.answersOnly("P31 digest() " + name, typed, due, BoxesGame::digest);
    }

    /** "The values are, in this order: ..", written out for a single box without and with all lines. */
    private static void writtenOut() {
        List<Long> empty = listOf(1, 1, 4, 0, 0, 0, 0, 4, 0, 0, 0, 0, 0, 2, 2, 2, 2, -1, -1, 0, 0, 1, 0, 0, 0, 0,
            0, 8, 0, 0, -1, 0);
        Check.same("P31 digest() of an empty box", Games.on(1, 1).digest(), unwrapped(empty).longValue());
        List<Long> full = listOf(1, 1, 4, 4, 1, 1, 0, 0, 0, 0, 0, 0, 1, 0, 0, 0, 0, 3, 2, 1, 0, 1, -1, 0, 0, 0, 1, 0, 0,
            0, 15, 8, -1, -1, 0, 2, 104, 126);
        BoxesGame game = Games.on(1, 1, 3, 2, 1, 0);
        Games.type(game, "h~");
        Check.same("P31 digest() of a full box", game.digest(), unwrapped(full).longValue());
        List<Long> thin = listOf(1, 1, 4, 2, 0, 0, 0, 0, 2, 0, 1, 0, 0, 3, 0, 0, 3, 1, 2, -1, 0, 1, 0, 0, 2, 0, 0, 0, 0,
            1, 0, 0, 1, 5, 2, 0, 0, -1, 0);
        Check.same("P31 digest() of a thin box", Games.on(1, 1, 1, 2).digest(), unwrapped(thin).longValue());
    }

    /** "in long arithmetic with overflow" */
    private static void overflow() {
        int below = 0;
        int above = 0;
        for (int[] board : Games.BOARDS) {
            int lines = Games.on(board[0], board[1]).count(2);
            for (int line = 0; line <= lines; line++) {
                BoxesGame game = Games.on(board[0], board[1]);
                game.follow(0, line == 0 ? 1 : line);
                if (line == 0) {
                    game.undo();
                }
                boolean solved = lines - line <= 8;
                BigInteger hash = unwrapped(valuesOf(game, "", game.count(10) <= 10, solved));
                Check.same("P31 the hash is beyond a long", hash.bitLength() > 64, true);
                Check.same("P31 digest() of the first " + line + " lines", game.digest(), hash.longValue());
                below += game.digest() < 0 ? 1 : 0;
                above += game.digest() > 0 ? 1 : 0;
            }
        }
        Check.same("P31 hashes of both signs", below > 0 && above > 0, true);
    }

    /** The values at the end and at the beginning of a game, on each board */
    private static void emptyAndFull() {
        for (int[] board : Games.BOARDS) {
            int lines = Games.on(board[0], board[1]).count(2);
            hashes("of no line", () -> Games.on(board[0], board[1]), "", true, lines <= 8);
            hashes("of all lines", () -> Games.full(board[0], board[1]), "", true, true);
        }
    }

    /** "if there are at most 8 open lines the outcome" */
    private static void eightAndNineOpenLines() {
        int[] order = {16, 0, 12, 5, 9, 3, 14, 7, 10, 1, 15, 8, 11, 2, 13, 6, 4};
        for (int open = 0; open <= 17; open++) {
            int drawn = 17 - open;
            hashes("with " + open + " open lines",
                () -> Games.on(3, 2, Arrays.copyOf(order, drawn)), "v", true, open <= 8);
        }
        BoxesGame nine = Games.allBut(4, 4, 0, 4, 8, 12, 16, 20, 25, 30, 35);
        Check.same("P31 nine open lines of the largest board", nine.digest(),
            unwrapped(valuesOf(nine, "", true, false)).longValue());
        nine.draw(35);
        Check.same("P31 eight open lines of the largest board", nine.digest(),
            unwrapped(valuesOf(nine, "", true, true)).longValue());
    }

    /** "if there are at most 10 strings the prediction" */
    private static void tenAndElevenStrings() {
        int[] border = {0, 20, 3, 24, 25, 29, 30, 34, 16, 35, 17, 19, 39, 1, 2, 18};
        for (int amount = 13; amount <= 16; amount++) {
            int[] open = Arrays.copyOf(border, amount);
            int strings = amount - 4;
            Check.same("P31 strings", Games.allBut(4, 4, open).count(10), strings);
            hashes("with " + strings + " strings", () -> Games.allBut(4, 4, open), "", strings <= 10, false);
        }
    }

    /** "the length of the input buffer and each of its character codes", none, one, all but one, and 60 of them */
    private static void buffers() {
        for (int length : new int[] {0, 1, 59, 60}) {
            hashes("with " + length + " characters", Games::middle, Games.text(length), true, false);
            hashes("with " + length + " lowest codes", BoxesGame::new, " ".repeat(length), true, false);
            hashes("with " + length + " highest codes", () -> Games.full(1, 1), "~".repeat(length), true, true);
        }
        BoxesGame cleared = Games.middle();
        Games.type(cleared, Games.text(60));
        cleared.clearInput();
        BoxesGame empty = Games.middle();
        empty.clearInput();
        Check.same("P31 cleared characters don't count", cleared.digest(), empty.digest());
    }

    /** "for each move that was not undone its line" */
    private static void undoneMoves() {
        BoxesGame game = Games.on(4, 4, 39, 0);
        long before = game.digest();
        game.draw(20);
        Check.same("P31 one more move", game.digest() == before, false);
        game.undo();
        Check.same("P31 undone moves don't count", game.digest(), before);
        Check.same("P31 the order of moves", Games.on(4, 4, 0, 39).digest() == before, false);
    }

    public static void main(String[] args) {
        writtenOut();
        overflow();
        emptyAndFull();
        eightAndNineOpenLines();
        tenAndElevenStrings();
        buffers();
        undoneMoves();
        Check.end();
    }
}
