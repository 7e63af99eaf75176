import java.math.BigInteger;
import java.util.ArrayList;
import java.util.List;

/** The boundary cases of promises 28 to 30; each test has its sentence of the document above it. */
public final class StylesEdgesTest {
    private static final int[] NO_STYLES = {-1, 3, 4, Integer.MIN_VALUE, Integer.MAX_VALUE};

    /** Boxes 2 and 3 of the upper row can be taken, the lower row is closed. */
    private static BoxesGame keeping() {
        return Games.allBut(4, 2, 15, 16, 17, 18, 19, 20, 21);
    }

    /** Thirteen lines are open; the keeping style leaves two boxes. */
    private static BoxesGame thirteen() {
        return Games.allBut(4, 4, 23, 24, 35, 16, 19, 39, 25, 8, 30, 9, 10, 27, 32);
    }

    /** Twelve lines are open; the keeping style leaves two boxes, but it is best to take them. */
    private static BoxesGame twelve() {
        return Games.allBut(4, 4, 23, 24, 35, 16, 19, 39, 25, 8, 30, 29, 11, 34);
    }

    private static void advises(String name, BoxesGame game, int... due) {
        for (int style = 0; style < due.length; style++) {
            Check.same("P28 advice(" + style + ") " + name, game.advice(style), due[style]);
        }
    }

    /** "IllegalArgumentException if style is out of range" */
    private static void styles() {
        advises("in the middle", Games.middle(), 11, 11, 11);
        for (int style : NO_STYLES) {
            Twins.refused("P28 advice(" + style + ")", Games::middle, IllegalArgumentException.class,
                game -> game.advice(style));
            Twins.refused("P28 advice(" + style + ") at the end", () -> Games.full(1, 1),
                IllegalArgumentException.class, game -> game.advice(style));
        }
    }

    /** "Returns the number of the line, NONE if there is no open line." */
    private static void noneAndOneOpenLine() {
        for (int[] board : Games.BOARDS) {
            advises("at the end", Games.full(board[0], board[1]), -1, -1, -1);
            int lines = Games.on(board[0], board[1]).count(2);
            for (int line = 0; line < lines; line++) {
                advises("of one open line", Games.allBut(board[0], board[1], line), line, line, line);
            }
        }
    }

    /** "the lowest taking line; if there is none, the lowest safe line; if there is none, the line with the lowest price" */
    private static void greedy() {
        advises("no line drawn", Games.on(4, 4), 0, 0, 0);
        advises("only safe lines", Games.on(1, 1, 0), 1, 1);
        advises("no safe line", Games.on(1, 1, 1, 2), 0, 0);
        advises("one taking line, the highest", Games.on(1, 1, 0, 1, 2), 3, 3, 3);
        // the only taking line is the last of the board, all others are safe
        advises("the last line of the board", Games.on(4, 4, 15, 19, 38), 39, 39, 39);
        // the single boxes 0 and 3 cost 1, the chain of two below costs 2
        advises("equal prices", Games.allBut(4, 2, 0, 12, 3, 16, 17, 18, 9), 0, 0);
        // the chain of two costs 2, the single box 7 costs 1
        advises("the lowest price at a higher line", Games.allBut(4, 2, 12, 13, 1, 11, 21), 11, 11);
    }

    /** "there is a taking line and no safe line" */
    private static void keepingWithNoSafeLine() {
        advises("no safe line", keeping(), 15, 16, 16);
        BoxesGame one = Games.allBut(4, 2, 15, 16, 17, 18, 19, 20, 21, 9);
        Check.same("P10 one safe line", one.count(7), 1);
        advises("one safe line", one, 15, 15);
        BoxesGame closed = Games.allBut(4, 2, 2, 15, 16, 17, 18, 19, 20, 21);
        Check.same("P10 no taking line", closed.count(6), 0);
        advises("no taking line", closed, 2, 2);
    }

    /** "the run of the present position is 2" */
    private static void keepingWithRunOfTwo() {
        advises("run of 1", Games.allBut(4, 2, 16, 17, 18, 19, 20, 21), 16, 16);
        advises("run of 2", Games.allBut(4, 2, 15, 16, 17, 18, 19, 20, 21), 15, 16);
        advises("run of 3", Games.allBut(4, 2, 14, 15, 16, 17, 18, 19, 20, 21), 14, 14);
    }

    /** "there are at least 5 boxes that are not complete" */
    private static void keepingWithFiveBoxes() {
        advises("4 boxes", Games.allBut(4, 2, 15, 16, 17, 18, 9), 15, 15);
        advises("5 boxes", Games.allBut(4, 2, 15, 16, 17, 18, 19, 10), 15, 16);
        advises("6 boxes", keeping(), 15, 16);
    }

    /** "some line would complete two boxes at once if the keeping line were drawn" */
    private static void keepingForTwoAtOnce() {
        advises("two at once", keeping(), 15, 16);
        advises("two single boxes", Games.allBut(4, 2, 12, 16, 17, 18, 19, 20, 21), 12, 12);
    }

    /** "Style 2 (exact) chooses the lowest line with the greatest worth if there are at most 12 open lines, otherwise the same line as style 1." */
    private static void exactWithTwelve() {
        Check.same("P10 twelve open lines", twelve().count(3), 28);
        advises("with 12 open lines", twelve(), 23, 24, 23);
        advises("with 11 open lines", Games.allBut(4, 2, 3, 4, 8, 9, 10, 11, 12, 14, 16, 19, 21), 14, 3, 14);
        Check.same("P10 thirteen open lines", thirteen().count(3), 27);
        advises("with 13 open lines", thirteen(), 23, 24, 24);
    }

    private static void refusedPlayout(int zero, int one, int what) {
        String name = "P29 playout(" + zero + "," + one + "," + what + ")";
        Twins.refused(name, Games::middle, IllegalArgumentException.class, game -> game.playout(zero, one, what));
        Twins.refused(name + " at the end", () -> Games.full(2, 1), IllegalArgumentException.class,
            game -> game.playout(zero, one, what));
    }

    /** "IllegalArgumentException if zero, one or what is out of range" */
    private static void playoutRanges() {
        for (int in = 0; in <= 2; in++) {
            for (int out : NO_STYLES) {
                refusedPlayout(out, in, in);
                refusedPlayout(in, out, in);
                refusedPlayout(in, in, out);
            }
        }
        refusedPlayout(-1, 3, -1);
    }

    /** "0 for the score of player 0 minus that of player 1 at the end, 1 for how often .., 2 for the line that is drawn last" */
    private static void playouts() {
        for (int zero = 0; zero <= 2; zero++) {
            for (int one = 0; one <= 2; one++) {
                playoutByAdvice("at first", BoxesGame::new, zero, one);
                playoutByAdvice("in the middle", Games::middle, zero, one);
                playoutByAdvice("keeping", StylesEdgesTest::keeping, zero, one);
                playoutByAdvice("of twelve lines", StylesEdgesTest::twelve, zero, one);
                playoutByAdvice("of thirteen lines", StylesEdgesTest::thirteen, zero, one);
                playoutByAdvice("of the largest board", () -> Games.on(4, 4), zero, one);
                playoutByAdvice("of a single box", () -> Games.on(1, 1), zero, one);
            }
        }
    }

    /** The same by hand; "Nothing is changed." */
    private static void playoutByAdvice(String name, Twins.Maker maker, int zero, int one) {
        BoxesGame game = maker.make();
        int changes = 0;
        int last = -1;
        while (game.count(3) < game.count(2)) {
            int player = game.count(5);
            last = game.advice(player == 0 ? zero : one);
            game.draw(last);
            changes += game.count(5) == player ? 0 : 1;
        }
        int[] due = {game.score(0) - game.score(1), changes, last};
        for (int what = 0; what <= 2; what++) {
            int i = what;
            Twins.answersOnly("P29 playout(" + zero + "," + one + "," + what + ") " + name, maker, due[what],
                g -> g.playout(zero, one, i));
        }
    }

    /** "NONE if none is drawn" */
    private static void playoutOfNoneAndOne() {
        for (int style = 0; style <= 2; style++) {
            BoxesGame ended = Games.full(4, 2);
            Check.same("P29 difference at the end", ended.playout(style, style, 0), ended.score(0) - ended.score(1));
            Check.same("P29 no changes at the end", ended.playout(style, style, 1), 0);
            Check.same("P29 no last line at the end", ended.playout(style, style, 2), -1);
        }
        for (int line = 0; line < 12; line++) {
            BoxesGame game = Games.allBut(2, 2, line);
            int boxes = 4 - game.count(4);
            int difference = game.score(0) - game.score(1) + (game.count(5) == 0 ? boxes : -boxes);
            Check.same("P29 difference of one line", game.playout(0, 1, 0), difference);
            Check.same("P29 changes of one line", game.playout(0, 1, 1), 0);
            Check.same("P29 last of one line", game.playout(0, 1, 2), line);
        }
    }

    /** "IllegalArgumentException if games or seed is out of range" */
    private static void meanRanges() {
        for (int seed : new int[] {0, 1, Integer.MAX_VALUE}) {
            for (int games : new int[] {0, 21, -1, 22, Integer.MIN_VALUE, Integer.MAX_VALUE}) {
                refusedMean(games, seed);
            }
        }
        for (int games : new int[] {1, 20, 0, 21}) {
            refusedMean(games, -1);
            refusedMean(games, Integer.MIN_VALUE);
        }
    }

    private static void refusedMean(int games, int seed) {
        String name = "P30 meanDifference(" + games + "," + seed + ")";
        Twins.refused(name, Games::middle, IllegalArgumentException.class, game -> game.meanDifference(games, seed));
        Twins.refused(name + " at the end", () -> Games.full(2, 1), IllegalArgumentException.class,
            game -> game.meanDifference(games, seed));
    }

    /** The random number x behind it: "(1103515245 * x + 12345) modulo 2 to the power of 31", with numbers of any size. */
    private static BigInteger next(BigInteger x) {
        return x.multiply(BigInteger.valueOf(1103515245)).add(BigInteger.valueOf(12345))
            .mod(BigInteger.TWO.pow(31));
    }

    /** "the number is (x / 65536, rounded down) modulo n" */
    private static int below(BigInteger x, int n) {
        return x.divide(BigInteger.valueOf(65536)).mod(BigInteger.valueOf(n)).intValueExact();
    }

    private static List<Integer> openLines(BoxesGame game) {
        List<Integer> open = new ArrayList<>();
        int lines = game.count(2);
        for (int line = 0; line < lines; line++) {
            if (game.kind(line) != 0) {
                open.add(line);
            }
        }
        return open;
    }

    private static double meanByHand(Twins.Maker maker, int games, int seed) {
        BigInteger x = BigInteger.valueOf(seed);
        double sum = 0;
        for (int played = 0; played < games; played++) {
            BoxesGame game = maker.make();
            List<Integer> open = openLines(game);
            while (!open.isEmpty()) {
                x = next(x);
                game.draw(open.remove(below(x, open.size())));
            }
            sum += game.score(0) - game.score(1);
        }
        return sum / games;
    }

    /** "games: the number of games, 1 to 20", "seed: 0 or more", "Nothing is changed." */
    private static void means() {
        int[] seeds = {0, 1, 2, 65535, 65536, 0x3fffffff, 0x40000000, 0x7ffffffe, 0x7fffffff};
        Twins.Maker[] makers = {BoxesGame::new, Games::middle, () -> Games.on(4, 4), () -> Games.on(1, 1),
            () -> Games.on(1, 4, 12), () -> Games.allBut(2, 2, 11)};
        for (int which = 0; which < makers.length; which++) {
            Twins.Maker maker = makers[which];
            for (int seed : seeds) {
                for (int games : new int[] {1, 2, 20}) {
                    Twins.answersOnly("P30 meanDifference(" + games + "," + seed + ") of position " + which, maker,
                        meanByHand(maker, games, seed), game -> game.meanDifference(games, seed));
                }
            }
        }
    }

    /** "modulo 2 to the power of 31", with the greatest seeds */
    private static void meanWraps() {
        // 2^31 - 1 is -1 modulo 2^31
        Check.same("P30 x behind the greatest seed", next(BigInteger.valueOf(Integer.MAX_VALUE)).longValueExact(),
            (1L << 31) - 1103515245L + 12345L);
        boolean differs = false;
        for (int seed = Integer.MAX_VALUE; seed > Integer.MAX_VALUE - 50; seed--) {
            double mean = Games.on(3, 3).meanDifference(1, seed);
            Check.same("P30 meanDifference(1," + seed + ")", mean,
                (Object) meanByHand(() -> Games.on(3, 3), 1, seed));
            differs |= mean != Games.on(3, 3).meanDifference(1, 0);
        }
        Check.same("P30 seeds make a difference", differs, true);
    }

    /** "The games follow one another with the same x." */
    private static void meanOfFollowingGames() {
        for (int seed : new int[] {0, 77, Integer.MAX_VALUE}) {
            BigInteger x = BigInteger.valueOf(seed);
            double sum = 0;
            for (int games = 1; games <= 20; games++) {
                sum += Games.on(3, 2, 5).meanDifference(1, x.intValueExact());
                Check.same("P30 the mean of " + games, Games.on(3, 2, 5).meanDifference(games, seed),
                    (Object) (sum / games));
                for (int move = 0; move < 16; move++) {
                    x = next(x);
                }
            }
        }
    }

    /** "For each move of a game a number .. is drawn": none at the end, where each game's difference is the present one. */
    private static void meanAtTheEnd() {
        for (int[] board : Games.BOARDS) {
            BoxesGame game = Games.full(board[0], board[1]);
            double due = game.score(0) - game.score(1);
            for (int games : new int[] {1, 7, 20}) {
                Check.same("P30 at the end", game.meanDifference(games, 0), (Object) due);
                Check.same("P30 at the end by another seed", game.meanDifference(games, Integer.MAX_VALUE), (Object) due);
            }
        }
    }

    public static void main(String[] args) {
        styles();
        noneAndOneOpenLine();
        greedy();
        keepingWithNoSafeLine();
        keepingWithRunOfTwo();
        keepingWithFiveBoxes();
        keepingForTwoAtOnce();
        exactWithTwelve();
        playoutRanges();
        playouts();
        playoutOfNoneAndOne();
        meanRanges();
        means();
        meanWraps();
        meanOfFollowingGames();
        meanAtTheEnd();
        Check.end();
    }
}
