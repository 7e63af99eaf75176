import java.util.ArrayList;
import java.util.List;

/** Promises 28 to 31: advice, playout, meanDifference, digest. */
public final class StylesTest {
    /** The right two boxes of the upper row can be taken, the lower row of four is closed; player 1 is to move. */
    private static BoxesGame twoAndFour() {
        return Games.allBut(4, 2, 15, 16, 17, 18, 19, 20, 21);
    }

    private static void advises(String name, BoxesGame game, int greedy, int keeping) {
        Check.same("P28 advice(0) " + name, game.advice(0), greedy);
        Check.same("P28 advice(1) " + name, game.advice(1), keeping);
    }

    private static void adviceGreedy() {
        advises("at first", Games.on(4, 4), 0, 0);
        advises("lowest safe line", Games.on(2, 2, 0, 1), 2, 2);
        advises("taking before a lower safe line", Games.on(2, 2, 0, 2, 6), 7, 7);
        advises("lowest of two taking lines", Games.on(2, 2, 0, 2, 7, 3, 8), 1, 1);
        advises("lowest of equal prices", Games.on(3, 2, 0, 1, 2, 3, 4, 5, 6, 7, 8), 9, 9);
        // a column of three costs 3, the box at the lower right costs 1
        advises("lowest price", Games.allBut(2, 3, 0, 2, 4, 6, 7, 16), 7, 7);
        advises("line 0 has the lowest price", Games.allBut(3, 2, 0, 9, 13, 14, 15, 16), 0, 0);
        for (int style = 0; style <= 2; style++) {
            Check.same("P28 no open line", Games.allBut(3, 3).advice(style), -1);
        }
    }

    private static void adviceKeeping() {
        advises("keeping", twoAndFour(), 15, 16);
        advises("keeping in the corner", Games.allBut(4, 2, 12, 13, 17, 18, 19, 20, 21), 13, 12);
        advises("keeping by line 0", Games.allBut(4, 2, 0, 13, 17, 18, 19, 20, 21), 13, 0);
        advises("taking by line 0", Games.allBut(4, 2, 0, 16, 17, 18, 19, 20, 21), 0, 0);
        advises("keeping with 5 boxes left", Games.allBut(3, 2, 11, 12, 13, 14, 15, 16), 11, 12);
        advises("taking with 4 boxes left", Games.allBut(2, 2, 7, 8, 9, 10, 11), 7, 7);
        advises("taking from a run of 3", Games.allBut(4, 2, 14, 15, 16, 17, 18, 19, 20, 21), 14, 14);
        advises("taking the last of a row", Games.allBut(4, 2, 16, 17, 18, 19, 20, 21), 16, 16);
        advises("taking two single boxes", Games.allBut(4, 2, 12, 16, 17, 18, 19, 20, 21), 12, 12);
        // the two boxes are completed at once already, so every other line is keeping
        advises("keeping elsewhere", Games.allBut(4, 2, 14, 17, 18, 19, 20, 21), 14, 17);
        // line 4 completes boxes 0 and 4; line 1 opens box 1, which stands between them
        advises("keeping beside another taking line", Games.allBut(4, 2, 1, 4, 14, 15, 16), 4, 1);
        // with h02 and h12 open the lower row has safe lines
        advises("taking while a line is safe", Games.allBut(4, 2, 15, 16, 17, 18, 19, 20, 21, 8, 9), 15, 15);
    }

    private static void adviceExact() {
        Check.same("P28 advice(2) keeps", twoAndFour().advice(2), 16);
        BoxesGame chain = Games.on(3, 1, 0, 1, 2, 3, 4, 5);
        Check.same("P28 advice(2) lowest of equals", chain.advice(2), 6);
        Check.same("P28 advice(2) takes", Games.allBut(2, 2, 7, 8, 9, 10, 11).advice(2), bestOf(
            Games.allBut(2, 2, 7, 8, 9, 10, 11)));
        BoxesGame small = new BoxesGame();
        Check.same("P28 advice(2) with 12 open lines", small.advice(2), bestOf(small));
        BoxesGame game = Games.on(3, 2, 0, 1, 2, 3);
        Check.same("P28 advice(2) with 13 open lines", game.advice(2), game.advice(1));
        Check.same("P28 advice(1) with 13 of a kind", thirteenOpen().advice(1), 24);
        Check.same("P28 advice(2) with 13 of a kind", thirteenOpen().advice(2), 24);
        Check.same("P28 advice(1) with 12 of a kind", twelveOpen().advice(1), 24);
        Check.same("P28 advice(2) with 12 of a kind", twelveOpen().advice(2), 23);
    }

    /** Two boxes can be taken and are worth taking; two single boxes, a chain of two and a loop are closed. */
    private static BoxesGame thirteenOpen() {
        return Games.allBut(4, 4, 23, 24, 35, 16, 19, 39, 25, 8, 30, 9, 10, 27, 32);
    }

    /** The same, with another chain of two instead of the loop. */
    private static BoxesGame twelveOpen() {
        return Games.allBut(4, 4, 23, 24, 35, 16, 19, 39, 25, 8, 30, 29, 11, 34);
    }

    private static int bestOf(BoxesGame game) {
        int best = -1;
        for (int line = 0; line < game.count(2); line++) {
            if (game.kind(line) != 0 && (best < 0 || game.worth(line) > game.worth(best))) {
                best = line;
            }
        }
        return best;
    }

    private static void adviceWrong() {
        BoxesGame game = twoAndFour();
        for (int style : new int[] {-1, 3, Integer.MIN_VALUE, Integer.MAX_VALUE}) {
            Check.raises(game, "P28 advice(" + style + ")", IllegalArgumentException.class, () -> game.advice(style));
        }
        BoxesGame ended = Games.allBut(1, 1);
        Check.raises(ended, "P28 advice(3) at the end", IllegalArgumentException.class, () -> ended.advice(3));
    }

    private static void plays(String name, BoxesGame game, int zero, int one, int... due) {
        long before = game.digest();
        for (int what = 0; what <= 2; what++) {
            Check.same("P29 playout(" + zero + "," + one + "," + what + ") " + name,
                game.playout(zero, one, what), due[what]);
        }
        Check.same("P29 changes nothing " + name, game.digest(), before);
    }

    private static void playout() {
        BoxesGame chain = Games.on(3, 1, 0, 1, 2, 3, 4, 5);
        plays("of a chain", chain, 0, 0, -3, 1, 9);
        chain.draw(6);
        plays("of an opened chain", chain, 2, 0, -3, 0, 9);
        // player 1 has two boxes, takes two more and opens four
        plays("greedy", twoAndFour(), 0, 0, 0, 1, 21);
        plays("greedy for who is to move", twoAndFour(), 1, 0, 0, 1, 21);
        // player 1 leaves two boxes and gets four
        plays("keeping for who is to move", twoAndFour(), 0, 1, -4, 2, 21);
        plays("exact for who is to move", twoAndFour(), 0, 2, -4, 2, 21);
        plays("at the end", Games.allBut(2, 1), 1, 2, -2, 0, -1);
        plays("of one box", Games.on(1, 1), 0, 0, -1, 3, 3);
    }

    private static void playoutLikeFollow() {
        for (int style = 0; style <= 2; style++) {
            likeFollow(style, Games.on(4, 4, 5, 17, 22), Games.on(4, 4, 5, 17, 22));
            likeFollow(style, Games.on(4, 4), Games.on(4, 4));
        }
    }

    private static void likeFollow(int style, BoxesGame game, BoxesGame followed) {
        int before = game.count(3);
        followed.follow(style, 40);
        int difference = followed.score(0) - followed.score(1);
        Check.same("P29 by style " + style, game.playout(style, style, 0), difference);
        Check.same("P29 last line by style " + style, game.playout(style, style, 2), followed.drawn(39));
        Check.same("P29 nothing is drawn", game.count(3), before);
    }

    private static void playoutWrong() {
        BoxesGame game = twoAndFour();
        int[][] wrong = {{-1, 0, 0}, {3, 0, 0}, {0, -1, 0}, {0, 3, 0}, {0, 0, -1}, {0, 0, 3}, {3, 3, 3},
            {0, 0, Integer.MAX_VALUE}, {Integer.MIN_VALUE, 0, 0}};
        for (int[] call : wrong) {
            Check.raises(game, "P29 playout(" + call[0] + "," + call[1] + "," + call[2] + ")",
                IllegalArgumentException.class, () -> game.playout(call[0], call[1], call[2]));
        }
    }

    private static void meanDifference() {
        Check.same("P30 at the end", Games.allBut(2, 1).meanDifference(20, 5), (Object) (-2.0));
        Check.same("P30 at an even end", Games.on(2, 1, 0, 1, 2, 4, 5, 3, 6).meanDifference(7, 0), (Object) 0.0);
        Check.same("P30 last line", Games.allBut(2, 1, 5).meanDifference(3, 1), (Object) 2.0);
        Check.same("P30 one box", Games.on(1, 1).meanDifference(20, Integer.MAX_VALUE), (Object) (-1.0));
        int[][] calls = {{1, 0}, {2, 5}, {3, 7}, {7, 12345}, {20, 1}, {20, Integer.MAX_VALUE}};
        for (int[] call : calls) {
            BoxesGame game = Games.on(3, 3, 4, 9);
            ReferenceGame reference = new ReferenceGame();
            reference.begin(3, 3);
            reference.draw(4);
            reference.draw(9);
            long before = game.digest();
            Check.same("P30 meanDifference(" + call[0] + "," + call[1] + ")",
                game.meanDifference(call[0], call[1]), (Object) reference.meanDifference(call[0], call[1]));
            Check.same("P30 changes nothing", game.digest(), before);
        }
        ReferenceGame large = new ReferenceGame();
        large.begin(4, 4);
        Check.same("P30 new 4 x 4", Games.on(4, 4).meanDifference(20, 99), (Object) large.meanDifference(20, 99));
        BoxesGame game = twoAndFour();
        int[][] wrong = {{0, 1}, {21, 1}, {-1, 1}, {1, -1}, {0, -1}, {1, Integer.MIN_VALUE}, {Integer.MAX_VALUE, 1}};
        for (int[] call : wrong) {
            Check.raises(game, "P30 meanDifference(" + call[0] + "," + call[1] + ")", IllegalArgumentException.class,
                () -> game.meanDifference(call[0], call[1]));
        }
    }

    /** The hash over what the other calls answer. */
    private static long hashOf(BoxesGame game, String buffer) {
        List<Long> values = new ArrayList<>();
        for (int what = 0; what <= 10; what++) {
            values.add((long) game.count(what));
        }
        values.add((long) game.score(0));
        values.add((long) game.score(1));
        int lines = game.count(2);
        for (int line = 0; line < lines; line++) {
            values.add((long) game.kind(line));
        }
        int moves = game.count(3);
        for (int move = 0; move < moves; move++) {
            values.add((long) game.drawn(move));
        }
        int boxes = game.count(0) * game.count(1);
        for (int box = 0; box < boxes; box++) {
            values.add((long) game.owner(box));
            values.add((long) game.stringOf(box));
        }
        int strings = game.count(10);
        for (int string = 0; string < strings; string++) {
            for (int what = 0; what <= 4; what++) {
                values.add((long) game.string(string, what));
            }
        }
        for (int what = 0; what <= 5; what++) {
            values.add((long) game.control(what));
        }
        if (strings <= 10) {
            values.add((long) game.prediction());
        }
        values.add(game.canonical());
        values.add((long) game.symmetries());
        values.add((long) game.advice(0));
        values.add((long) game.advice(1));
        if (lines - moves <= 8) {
            values.add((long) game.outcome());
        }
        values.add((long) buffer.length());
        for (char c : buffer.toCharArray()) {
            values.add((long) c);
        }
        long hash = 1913;
        for (long value : values) {
            hash = 31 * hash + value;
        }
        return hash;
    }

    private static void digest() {
        Check.same("P31 new 4 x 4", digestAfter(Games.on(4, 4, 39, 0), "v2"), hashOf(Games.on(4, 4, 39, 0), "v2"));
        BoxesGame[] games = {new BoxesGame(), Games.on(1, 1), twoAndFour(), thirteenOpen(), Games.allBut(4, 4),
            Games.allBut(3, 3, 0, 3, 6, 9, 12, 15, 16, 23), Games.allBut(3, 3, 0, 3, 6, 9, 12, 15, 16, 20, 23),
            // twelve strings: no prediction
            Games.allBut(4, 4, 0, 1, 2, 3, 16, 17, 18, 19, 20, 24, 25, 29, 30, 34, 35, 39),
            // eleven and ten
            Games.allBut(4, 4, 0, 2, 3, 16, 17, 18, 19, 20, 24, 25, 29, 30, 34, 35, 39),
            Games.allBut(4, 4, 0, 3, 16, 17, 18, 19, 20, 24, 25, 29, 30, 34, 35, 39)};
        for (int i = 0; i < games.length; i++) {
            long due = hashOf(games[i], "");
            Check.same("P31 digest() of game " + i, games[i].digest(), due);
            Check.same("P31 digest() again of game " + i, games[i].digest(), due);
            Check.same("P31 with a buffer, game " + i, digestAfter(games[i], "h00,~ "), hashOf(games[i], "h00,~ "));
        }
        BoxesGame game = Games.on(2, 2, 0, 5);
        Check.same("P31 order of moves", game.digest() == Games.on(2, 2, 5, 0).digest() ? 1 : 0, 0);
    }

    private static long digestAfter(BoxesGame game, String text) {
        Games.type(game, text);
        return game.digest();
    }

    public static void main(String[] args) {
        adviceGreedy();
        adviceKeeping();
        adviceExact();
        adviceWrong();
        playout();
        playoutLikeFollow();
        playoutWrong();
        meanDifference();
        digest();
        Check.end();
    }
}
