/** Promises 19 to 22: stringOf, string, control, prediction. */
public final class StringsTest {
    private static final int[] WRONG = {-1, 16, Integer.MIN_VALUE, Integer.MAX_VALUE};

    /** A chain of five around the middle box of the upper row, which is open at its top. */
    private static BoxesGame around() {
        return Games.allBut(3, 2, 0, 1, 3, 14, 15, 5);
    }

    /** The outer twelve boxes of the large board are a loop, the inner four another one. */
    private static BoxesGame twoLoops() {
        return Games.on(4, 4, 0, 1, 2, 3, 16, 17, 18, 19, 20, 24, 25, 29, 30, 34, 35, 39,
            5, 6, 13, 14, 26, 28, 31, 33);
    }

    /** Twelve strings of one box each: all inner lines of the large board are drawn. */
    private static BoxesGame twelve() {
        return Games.allBut(4, 4, 0, 1, 2, 3, 16, 17, 18, 19, 20, 24, 25, 29, 30, 34, 35, 39);
    }

    private static void stringNumbers(String name, BoxesGame game, int... due) {
        for (int box = 0; box < due.length; box++) {
            Check.same("P19 " + name + " stringOf(" + box + ")", game.stringOf(box), due[box]);
        }
    }

    private static void stringOf() {
        stringNumbers("new", new BoxesGame(), -1, -1, -1, -1);
        stringNumbers("chain", Games.on(3, 1, 0, 1, 2, 3, 4, 5), 0, 0, 0);
        stringNumbers("chain in two", Games.on(3, 1, 0, 1, 2, 3, 4, 5, 7), 0, 1, 1);
        stringNumbers("beside a complete box", Games.on(3, 1, 0, 1, 2, 3, 4, 5, 7, 6), -1, 0, 0);
        stringNumbers("drawn line between", Games.on(2, 2, 0, 2, 4), 0, -1, 1, -1);
        stringNumbers("by lowest boxes", around(), 0, 1, 0, 0, 0, 0);
        stringNumbers("two loops", twoLoops(), 0, 0, 0, 0, 0, 1, 1, 0, 0, 1, 1, 0, 0, 0, 0, 0);
        stringNumbers("ended", Games.allBut(2, 2), -1, -1, -1, -1);
        BoxesGame game = around();
        Check.raises(game, "P19 stringOf(6)", IndexOutOfBoundsException.class, () -> game.stringOf(6));
        for (int box : WRONG) {
            Check.raises(game, "P19 stringOf(" + box + ")", IndexOutOfBoundsException.class, () -> game.stringOf(box));
        }
    }

    private static void properties(String name, BoxesGame game, int string, int... due) {
        for (int what = 0; what <= 4; what++) {
            Check.same("P20 " + name + " string(" + string + "," + what + ")", game.string(string, what), due[what]);
        }
    }

    private static void string() {
        properties("chain", Games.on(3, 1, 0, 1, 2, 3, 4, 5), 0, 3, 0, 0, 4, 0);
        properties("open chain", Games.on(3, 1, 0, 1, 2, 3, 4, 5, 6), 0, 3, 0, 1, 3, 0);
        properties("around", around(), 0, 5, 0, 1, 5, 0);
        properties("inside", around(), 1, 1, 0, 1, 1, 0);
        properties("outer loop", twoLoops(), 0, 12, 1, 0, 12, 0);
        properties("inner loop", twoLoops(), 1, 4, 1, 0, 4, 0);
        properties("at one thick box", Games.on(2, 2, 0, 2, 4), 0, 1, 0, 0, 2, 1);
        properties("at another thick box", Games.on(2, 2, 0, 2, 4), 1, 1, 0, 0, 2, 1);
        // from a box with three open sides around and back to it
        properties("back to a thick box", Games.allBut(2, 2, 0, 2, 3, 7, 10), 0, 3, 0, 0, 4, 2);
        BoxesGame opened = twoLoops();
        opened.draw(9);
        properties("opened loop", opened, 1, 4, 0, 1, 3, 0);
        Check.same("P20 two boxes with no open side but the line between",
            Games.allBut(2, 1, 5).string(0, 1), 0);
    }

    private static void stringWrong() {
        BoxesGame game = around();
        for (int string : new int[] {-1, 2, 16, Integer.MIN_VALUE, Integer.MAX_VALUE}) {
            Check.raises(game, "P20 string(" + string + ",0)", IndexOutOfBoundsException.class,
                () -> game.string(string, 0));
            Check.raises(game, "P20 string(" + string + ",5)", IndexOutOfBoundsException.class,
                () -> game.string(string, 5));
        }
        for (int what : new int[] {-1, 5, Integer.MIN_VALUE, Integer.MAX_VALUE}) {
            Check.raises(game, "P20 string(0," + what + ")", IllegalArgumentException.class,
                () -> game.string(0, what));
        }
        BoxesGame fresh = new BoxesGame();
        Check.raises(fresh, "P20 no string", IndexOutOfBoundsException.class, () -> fresh.string(0, 0));
    }

    private static void controls(String name, BoxesGame game, int... due) {
        for (int what = 0; what <= 5; what++) {
            Check.same("P21 " + name + " control(" + what + ")", game.control(what), due[what]);
        }
    }

    private static void control() {
        controls("new", new BoxesGame(), 0, 0, 4, 0, 0, 1);
        controls("new 1 x 1", Games.on(1, 1), 0, 0, 1, 0, 0, 0);
        controls("new 4 x 4", Games.on(4, 4), 0, 0, 16, 0, 0, 1);
        controls("chain", Games.on(3, 1, 0, 1, 2, 3, 4, 5), 1, 0, 0, 1, -1, 1);
        controls("open chain", Games.on(3, 1, 0, 1, 2, 3, 4, 5, 6), 1, 0, 0, 0, -1, 1);
        controls("chain of two", Games.on(2, 1, 0, 1, 2, 3), 0, 0, 0, 1, 0, 0);
        controls("around", around(), 1, 0, 0, 0, 1, 1);
        controls("two loops", twoLoops(), 0, 2, 0, 1, 0, 1);
        controls("back to a thick box", Games.allBut(2, 2, 0, 2, 3, 7, 10), 1, 0, 1, 0, -1, 0);
        controls("two chains", Games.on(4, 2, 0, 1, 2, 3, 4, 5, 6, 7, 8, 9, 10, 11), 2, 0, 0, 1, 0, 1);
        controls("ended", Games.allBut(3, 2), 0, 0, 0, 1, 0, 0);
        BoxesGame game = around();
        for (int what : new int[] {-1, 6, Integer.MIN_VALUE, Integer.MAX_VALUE}) {
            Check.raises(game, "P21 control(" + what + ")", IllegalArgumentException.class, () -> game.control(what));
        }
    }

    private static void predicts(String name, BoxesGame game, int due) {
        Check.same("P22 prediction of " + name, game.prediction(), due);
    }

    private static void prediction() {
        predicts("no strings", new BoxesGame(), 0);
        predicts("1", Games.on(1, 1, 0, 1), 1);
        predicts("2", Games.on(2, 1, 0, 1, 2, 3), 2);
        predicts("3", Games.on(3, 1, 0, 1, 2, 3, 4, 5), 3);
        predicts("4", Games.on(4, 1, 0, 1, 2, 3, 4, 5, 6, 7), 4);
        predicts("1, 1", Games.on(1, 2, 0, 1, 2), 0);
        predicts("1, 2", Games.on(3, 1, 0, 1, 2, 3, 4, 5, 7), -1);
        predicts("2, 2", Games.on(2, 2, 0, 1, 2, 3, 4, 5), 0);
        predicts("1, 3", Games.on(4, 1, 0, 1, 2, 3, 4, 5, 6, 7, 9), -2);
        predicts("3, 3", Games.on(3, 2, 0, 1, 2, 3, 4, 5, 6, 7, 8), 2);
        predicts("3, 3, 3", Games.on(3, 3, 0, 1, 2, 3, 4, 5, 6, 7, 8, 9, 10, 11), 1);
        predicts("4, 4", Games.on(4, 2, 0, 1, 2, 3, 4, 5, 6, 7, 8, 9, 10, 11), 4);
        predicts("1, 3, 4", Games.on(4, 2, 0, 1, 2, 3, 4, 5, 6, 7, 8, 9, 10, 11, 13), -2);
        predicts("a loop of 4", Games.on(2, 2, 0, 1, 4, 5, 6, 8, 9, 11), 4);
        predicts("loops of 12 and 4", twoLoops(), 8);
        predicts("a loop of 4 and a chain of 3", Games.allBut(3, 3, 3, 4, 13, 17, 20, 21, 22, 23), 1);
        predicts("no boxes", Games.allBut(4, 4), 0);
    }

    private static void predictionOfMany() {
        BoxesGame game = twelve();
        Check.same("P22 twelve strings", game.count(10), 12);
        Check.raises(game, "P22 prediction() of 12", IllegalStateException.class, () -> game.prediction());
        game.draw(1);
        Check.same("P22 eleven strings", game.count(10), 11);
        Check.raises(game, "P22 prediction() of 11", IllegalStateException.class, () -> game.prediction());
        game.draw(2);
        Check.same("P22 ten strings", game.count(10), 10);
        Check.same("P22 prediction() of 10", game.prediction(), 0);
        game.draw(17);
        Check.same("P22 prediction() of 9", game.prediction(), 1);
    }

    public static void main(String[] args) {
        stringOf();
        string();
        stringWrong();
        control();
        prediction();
        predictionOfMany();
        Check.end();
    }
}
