import java.util.Arrays;

/** The boundary cases of promises 19 to 22; each test has its sentence of the document above it. */
public final class StringsEdgesTest {
    /** The border of the large board. */
    private static final int[] BORDER = {0, 1, 2, 3, 16, 17, 18, 19, 20, 24, 25, 29, 30, 34, 35, 39};

    /** Fourteen strings: each outer box by itself, the inner boxes two by two. */
    private static BoxesGame fourteen() {
        return Games.allBut(4, 4, 0, 1, 2, 3, 16, 17, 18, 19, 20, 24, 25, 29, 30, 34, 35, 39, 27, 32);
    }

    /** Nine boxes by themselves, and the inner boxes 5 and 6. */
    private static BoxesGame ten() {
        return Games.allBut(4, 4, 0, 20, 3, 24, 25, 29, 30, 34, 16, 35, 17, 19, 39, 27);
    }

    /** The same, and box 14. */
    private static BoxesGame eleven() {
        return Games.allBut(4, 4, 0, 20, 3, 24, 25, 29, 30, 34, 16, 35, 17, 19, 39, 27, 18);
    }

    /** All sixteen boxes in one loop. */
    private static BoxesGame largestLoop() {
        return Games.allBut(4, 4, 21, 22, 23, 7, 28, 27, 9, 32, 33, 15, 38, 37, 36, 12, 8, 4);
    }

    /** All sixteen boxes in one chain. */
    private static BoxesGame longestChain() {
        return Games.on(4, 4, 1, 2, 3, 17, 18, 19, 20, 25, 30, 35, 24, 29, 34, 39, 4, 5, 6, 9, 10, 11, 12, 13, 14);
    }

    private static BoxesGame loopOf(int size) {
        switch (size) {
            case 4: return Games.allBut(2, 2, 2, 3, 7, 10);
            case 6: return Games.allBut(3, 2, 3, 5, 10, 11, 14, 15);
            case 8: return Games.allBut(4, 2, 4, 7, 13, 14, 15, 18, 19, 20);
            case 12: return Games.allBut(4, 4, 21, 22, 23, 7, 11, 15, 38, 37, 36, 12, 8, 4);
            default: return largestLoop();
        }
    }

    /** So many boxes of a row of four, from the left side of the first one to the top of the last one. */
    private static BoxesGame chainOf(int size) {
        int[] open = {8, 9, 10, 11, 11};
        open[size] = size - 1;
        return Games.allBut(4, 1, Arrays.copyOf(open, size + 1));
    }

    /** "A box is thin if it has one or two open sides." */
    private static void thin() {
        // the sides of the middle box
        int[][] drawn = {{}, {4}, {4, 7}, {4, 7, 17}, {4, 7, 17, 18}};
        int[] due = {-1, -1, 0, 0, -1};
        for (int sides = 0; sides <= 4; sides++) {
            BoxesGame game = Games.on(3, 3, drawn[sides]);
            Check.same("P19 stringOf with " + (4 - sides) + " open sides", game.stringOf(4), due[sides]);
            Check.same("P10 strings with " + (4 - sides) + " open sides", game.count(10), due[sides] + 1);
            // a box is complete, thin, or neither
            Check.same("P21 other boxes with " + (4 - sides) + " open sides", game.control(2), sides < 2 ? 9 : 8);
        }
    }

    /** "Two thin boxes hang together if they share an open line." */
    private static void hangTogether() {
        BoxesGame shared = Games.on(2, 1, 0, 1, 2, 3);
        Check.same("P19 an open line between", shared.stringOf(1), 0);
        shared.draw(5);
        Check.same("P19 a drawn line between", shared.stringOf(1), 1);
        BoxesGame thick = Games.on(2, 1, 0, 2);
        Check.same("P19 thin beside a thick box", thick.stringOf(0), 0);
        Check.same("P19 thick beside a thin box", thick.stringOf(1), -1);
        BoxesGame between = Games.on(3, 1, 0, 3, 2, 5);
        Check.same("P19 before a thick box", between.stringOf(0), 0);
        Check.same("P19 the thick box", between.stringOf(1), -1);
        Check.same("P19 behind a thick box", between.stringOf(2), 1);
    }

    /** "Strings are numbered from 0 by their lowest boxes.", none, one of all boxes, and many */
    private static void numbers() {
        int[] due = {0, 1, 2, 3, 4, 5, 5, 6, 7, 8, 8, 9, 10, 11, 12, 13};
        BoxesGame many = fourteen();
        BoxesGame none = Games.on(4, 4);
        BoxesGame ended = Games.full(4, 4);
        BoxesGame chain = longestChain();
        BoxesGame loop = largestLoop();
        for (int box = 0; box < 16; box++) {
            Check.same("P19 of fourteen, box " + box, many.stringOf(box), due[box]);
            Check.same("P19 of none, box " + box, none.stringOf(box), -1);
            Check.same("P19 at the end, box " + box, ended.stringOf(box), -1);
            Check.same("P19 of one chain, box " + box, chain.stringOf(box), 0);
            Check.same("P19 of one loop, box " + box, loop.stringOf(box), 0);
        }
        Check.same("P10 fourteen strings", many.count(10), 14);
        Check.same("P10 no strings", none.count(10), 0);
        Check.same("P10 no strings at the end", ended.count(10), 0);
        Check.same("P10 one string", chain.count(10), 1);
    }

    /** "IndexOutOfBoundsException if there is no such string" */
    private static void strings() {
        Check.same("P20 string(0,0)", fourteen().string(0, 0), 1);
        Check.same("P20 string(13,0)", fourteen().string(13, 0), 1);
        for (int string : new int[] {-1, 14, 15, 16, Integer.MIN_VALUE, Integer.MAX_VALUE}) {
            noString("of fourteen", StringsEdgesTest::fourteen, string);
        }
        for (int string : new int[] {-1, 1}) {
            noString("of one", StringsEdgesTest::longestChain, string);
        }
        for (int string : new int[] {-1, 0, 1}) {
            noString("at first", BoxesGame::new, string);
            noString("at the end", () -> Games.full(3, 3), string);
        }
        noString("of one of two that is gone", () -> {
            BoxesGame game = Games.on(1, 2, 0, 1, 2, 3);
            Check.same("P20 the other string", game.string(1, 0), 1);
            game.draw(4);
            return game;
        }, 1);
    }

    /** Also "If several exceptions apply, the one that is named first in the throws clause is thrown." */
    private static void noString(String name, Twins.Maker maker, int string) {
        for (int what : new int[] {0, 4, -1, 5}) {
            Twins.refused("P20 string(" + string + "," + what + ") " + name, maker, IndexOutOfBoundsException.class,
                game -> game.string(string, what));
        }
    }

    /** "IllegalArgumentException if what is not 0 to 4" */
    private static void whatOfString() {
        for (int what : new int[] {-1, 5, 6, Integer.MIN_VALUE, Integer.MAX_VALUE}) {
            for (int string : new int[] {0, 13}) {
                Twins.refused("P20 string(" + string + "," + what + ")", StringsEdgesTest::fourteen,
                    IllegalArgumentException.class, game -> game.string(string, what));
            }
        }
    }

    private static void properties(String name, BoxesGame game, int string, int... due) {
        for (int what = 0; what <= 4; what++) {
            Check.same("P20 string(" + string + "," + what + ") " + name, game.string(string, what), due[what]);
        }
    }

    /** "0 for the number of its boxes; .. 3 for the number of open lines that are sides of its boxes", fewest and most */
    private static void smallestAndLargest() {
        properties("one line", Games.allBut(4, 4, 0), 0, 1, 0, 1, 1, 0);
        properties("one line of two boxes", Games.allBut(4, 4, 5), 0, 2, 0, 1, 1, 0);
        properties("two lines of one box", Games.allBut(4, 4, 0, 20), 0, 1, 0, 0, 2, 0);
        properties("longest chain", longestChain(), 0, 16, 0, 0, 17, 0);
        properties("largest loop", largestLoop(), 0, 16, 1, 0, 16, 0);
        properties("first of fourteen", fourteen(), 0, 1, 0, 0, 2, 0);
        properties("sixth of fourteen", fourteen(), 5, 2, 0, 1, 1, 0);
        properties("last of fourteen", fourteen(), 13, 1, 0, 0, 2, 0);
    }

    /** "4 for the number of these that are also sides of a box that is not thin" */
    private static void sidesOfThickBoxes() {
        properties("beside no thick box", chainOf(1), 0, 1, 0, 0, 2, 0);
        properties("beside one thick box", Games.on(2, 1, 0, 2), 0, 1, 0, 0, 2, 1);
        properties("between two thick boxes", Games.on(3, 1, 1, 4), 0, 1, 0, 0, 2, 2);
        // the thick box has three open sides, and four
        properties("beside three open sides", Games.on(2, 1, 0, 2, 1), 0, 1, 0, 0, 2, 1);
        properties("beside two open sides", Games.on(2, 1, 0, 2, 1, 3), 0, 2, 0, 0, 3, 0);
        properties("open, beside a thick box", Games.on(2, 1, 0, 2, 4), 0, 1, 0, 1, 1, 1);
    }

    /** "A string is a loop if each of its boxes has two open sides, and each of these lines is shared with another box of the string." */
    private static void loops() {
        for (int size : new int[] {4, 6, 8, 12, 16}) {
            properties("loop", loopOf(size), 0, size, 1, 0, size, 0);
            BoxesGame opened = loopOf(size);
            for (int line = 0; line < opened.count(2); line++) {
                if (opened.kind(line) != 0) {
                    opened.draw(line);
                    properties("loop opened by " + line, opened, 0, size, 0, 1, size - 1, 0);
                    opened.undo();
                }
            }
        }
        // one more side is open: of its box, which is thick then
        properties("loop but for a thick box", Games.allBut(2, 2, 2, 3, 7, 10, 0), 0, 3, 0, 0, 4, 2);
        // both ends at the border, side by side
        properties("bent chain", Games.allBut(2, 2, 2, 7, 10, 8, 11), 0, 4, 0, 0, 5, 0);
        properties("two boxes, two open sides each", Games.on(2, 1, 0, 1, 2, 3), 0, 2, 0, 0, 3, 0);
    }

    /** "A string is open if one of its boxes has just one open side." */
    private static void open() {
        for (int size = 1; size <= 4; size++) {
            Check.same("P20 closed chain of " + size, chainOf(size).string(0, 2), 0);
            BoxesGame first = chainOf(size);
            first.draw(8);
            Check.same("P20 chain of " + size + " opened at its first box", first.string(0, 2), 1);
            BoxesGame last = chainOf(size);
            last.draw(size - 1);
            Check.same("P20 chain of " + size + " opened at its last box", last.string(0, 2), 1);
        }
    }

    private static void controls(String name, BoxesGame game, int... due) {
        for (int what = 0; what <= 5; what++) {
            Check.same("P21 control(" + what + ") " + name, game.control(what), due[what]);
        }
    }

    /** "IllegalArgumentException if what is not 0 to 5" */
    private static void whatOfControl() {
        controls("in the middle", Games.middle(), 0, 0, 3, 0, 0, 0);
        for (int what : new int[] {-1, 6, 7, Integer.MIN_VALUE, Integer.MAX_VALUE}) {
            Twins.refused("P21 control(" + what + ")", Games::middle, IllegalArgumentException.class,
                game -> game.control(what));
        }
    }

    /** "1 if there are no such boxes and no string is open, else 0", with no line and with every line drawn */
    private static void controlOfTheEmptyAndTheFull() {
        for (int[] board : Games.BOARDS) {
            int corners = (board[0] + 1) * (board[1] + 1) % 2;
            controls("at first", Games.on(board[0], board[1]), 0, 0, board[0] * board[1], 0, 0, corners);
            controls("at the end", Games.full(board[0], board[1]), 0, 0, 0, 1, 0, corners);
        }
        BoxesGame one = Games.on(2, 1, 0, 2, 1);
        Check.same("P21 one such box", one.control(2), 1);
        Check.same("P21 is not none", one.control(3), 0);
        one.draw(3);
        Check.same("P21 no such box", one.control(2), 0);
        Check.same("P21 no such box and none is open", one.control(3), 1);
        one.draw(4);
        Check.same("P21 one is open", one.control(3), 0);
    }

    /** "A chain is long if it has at least three boxes.", "their sizes minus 4" */
    private static void longChains() {
        // a row of four has ten corners
        controls("of one", chainOf(1), 0, 0, 0, 1, 0, 0);
        controls("of two", chainOf(2), 0, 0, 0, 1, 0, 0);
        controls("of three", chainOf(3), 1, 0, 0, 1, -1, 1);
        controls("of four", chainOf(4), 1, 0, 0, 1, 0, 1);
        controls("of sixteen", longestChain(), 1, 0, 0, 1, 12, 0);
        controls("of three and three", Games.on(3, 2, 0, 1, 2, 3, 4, 5, 6, 7, 8), 2, 0, 0, 1, -2, 0);
        controls("of fourteen strings", fourteen(), 0, 0, 0, 0, 0, 1);
    }

    /** "the sum, over all loops, of their sizes minus 8" */
    private static void loopsOfControl() {
        controls("loop of 4", loopOf(4), 0, 1, 0, 1, -4, 1);
        controls("loop of 6", loopOf(6), 0, 1, 0, 1, -2, 0);
        controls("loop of 8", loopOf(8), 0, 1, 0, 1, 0, 1);
        controls("loop of 12", loopOf(12), 0, 1, 0, 1, 4, 1);
        controls("loop of 16", loopOf(16), 0, 1, 0, 1, 8, 1);
    }

    private static void predicts(String name, BoxesGame game, int due) {
        Check.same("P22 prediction of " + name, game.prediction(), due);
    }

    /** "For no strings it is 0." */
    private static void predictionOfNone() {
        for (int[] board : Games.BOARDS) {
            predicts("no strings at first", Games.on(board[0], board[1]), 0);
            predicts("no strings at the end", Games.full(board[0], board[1]), 0);
        }
    }

    /** "if t is a chain with n less than 3, w(t) is n - v; if t is a long chain, .. the greater one of n - v and n - 4 + v" */
    private static void predictionOfChains() {
        for (int size = 1; size <= 4; size++) {
            predicts("a chain of " + size, chainOf(size), size);
        }
        predicts("a chain of 16", longestChain(), 16);
        // beside an upper row of four
        predicts("4 and 1", Games.allBut(4, 2, 12, 13, 14, 15, 16, 17, 8), -3);
        predicts("4 and 2", Games.allBut(4, 2, 12, 13, 14, 15, 16, 17, 18, 9), -2);
        predicts("4 and 3", Games.allBut(4, 2, 12, 13, 14, 15, 16, 17, 18, 19, 10), 3);
        predicts("4 and 4", Games.allBut(4, 2, 12, 13, 14, 15, 16, 17, 18, 19, 20, 21), 4);
    }

    /** "if t is a loop, w(t) is the greater one of n - v and n - 8 + v" */
    private static void predictionOfLoops() {
        for (int size : new int[] {4, 6, 8, 12, 16}) {
            predicts("a loop of " + size, loopOf(size), size);
        }
        // beside a loop of four in the corner of three by three: v is 1 to 5
        int[] loop = {3, 4, 13, 17};
        predicts("a loop of 4 and 1", besides(loop, 2, 15), -3);
        predicts("a loop of 4 and 2", besides(loop, 2, 5, 19), -2);
        predicts("a loop of 4 and 3", besides(loop, 2, 5, 8, 23), 1);
        predicts("a loop of 4 and 4", besides(loop, 2, 5, 8, 22, 10), 0);
        predicts("a loop of 4 and 5", besides(loop, 2, 5, 8, 22, 21, 9), 1);
    }

    private static BoxesGame besides(int[] loop, int... chain) {
        int[] open = Arrays.copyOf(loop, loop.length + chain.length);
        System.arraycopy(chain, 0, open, loop.length, chain.length);
        return Games.allBut(3, 3, open);
    }

    /** "IllegalStateException if there are more than 10 strings" */
    private static void predictionOfMany() {
        Check.same("P10 ten strings", ten().count(10), 10);
        predicts("ten strings", ten(), -1);
        Check.same("P10 eleven strings", eleven().count(10), 11);
        Twins.refused("P22 prediction() of eleven", StringsEdgesTest::eleven, IllegalStateException.class,
            BoxesGame::prediction);
        Twins.refused("P22 prediction() of twelve", () -> Games.allBut(4, 4, BORDER), IllegalStateException.class,
            BoxesGame::prediction);
        Twins.refused("P22 prediction() of fourteen", StringsEdgesTest::fourteen, IllegalStateException.class,
            BoxesGame::prediction);
        BoxesGame game = eleven();
        game.draw(18);
        predicts("ten strings that were eleven", game, -1);
        game.undo();
        Check.same("P22 prediction() of eleven again", Check.answer(game::prediction), "throws IllegalStateException");
    }

    /** "IndexOutOfBoundsException if there is no such string": of those that are gone nothing is left either. */
    private static void goneStrings() {
        BoxesGame game = Games.on(3, 1, 0, 3, 2, 5);
        properties("beside a thick box", game, 1, 1, 0, 0, 2, 1);
        game.draw(1);
        properties("beside a thick box still", game, 1, 1, 0, 0, 2, 1);
        game.draw(4);
        properties("beside thin boxes", game, 0, 3, 0, 0, 4, 0);
        controls("of one string that was two", game, 1, 0, 0, 1, -1, 1);
        BoxesGame two = Games.on(3, 2, 0, 1, 2, 3, 4, 5, 6, 7, 8, 13);
        controls("of a closed and an open chain", two, 2, 0, 0, 0, -2, 0);
        for (int i = 0; i < 3; i++) {
            two.follow(0, 1);
        }
        controls("of the closed chain alone", two, 1, 0, 0, 1, -1, 1);
        Check.same("P10 one string is left", two.count(10), 1);
        two.follow(0, 40);
        controls("when that is gone too", two, 0, 0, 0, 1, 0, 0);
        predicts("what is gone", two, 0);
    }

    public static void main(String[] args) {
        thin();
        hangTogether();
        numbers();
        strings();
        whatOfString();
        smallestAndLargest();
        sidesOfThickBoxes();
        loops();
        open();
        whatOfControl();
        controlOfTheEmptyAndTheFull();
        longChains();
        loopsOfControl();
        predictionOfNone();
        predictionOfChains();
        predictionOfLoops();
        predictionOfMany();
        goneStrings();
        Check.end();
    }
}
