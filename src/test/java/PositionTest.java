/** Promises 10 to 18: count, score, line, kind, price, drawn, owner, openSides, safeMoves. */
public final class PositionTest {
    private static final int[] WRONG = {-1, 40, 64, Integer.MIN_VALUE, Integer.MAX_VALUE};

    private static void counts(String name, BoxesGame game, int... due) {
        for (int what = 0; what <= 10; what++) {
            Check.same("P10 " + name + " count(" + what + ")", game.count(what), due[what]);
        }
    }

    private static void countAll() {
        counts("new", new BoxesGame(), 2, 2, 12, 0, 0, 0, 0, 12, 0, 0, 0);
        // both boxes of the left column have two open sides, and a drawn line between them
        counts("thin", Games.on(2, 2, 0, 2, 4), 2, 2, 12, 3, 0, 1, 0, 5, 4, 0, 2);
        counts("taking", Games.on(2, 2, 0, 2, 6), 2, 2, 12, 3, 0, 1, 1, 8, 0, 1, 1);
        counts("chain", Games.on(3, 1, 0, 1, 2, 3, 4, 5, 6), 3, 1, 10, 7, 0, 1, 1, 0, 2, 3, 1);
        counts("ended", Games.allBut(4, 4), 4, 4, 40, 40, 16, Games.allBut(4, 4).count(5), 0, 0, 0, 0, 0);
        BoxesGame game = Games.on(2, 2, 0);
        for (int what : new int[] {-1, 11, Integer.MIN_VALUE, Integer.MAX_VALUE}) {
            Check.raises(game, "P10 count(" + what + ")", IllegalArgumentException.class, () -> game.count(what));
        }
    }

    private static void countRun() {
        // the ring of four boxes: nothing can be taken until it is opened, then all of it
        BoxesGame game = Games.on(2, 2, 0, 1, 4, 5, 6, 8, 9, 11);
        Check.same("P10 run of a closed loop", game.count(9), 0);
        game.draw(10);
        Check.same("P10 run of an opened loop", game.count(9), 4);
        Check.same("P10 taking lines of it", game.count(6), 2);
        // two boxes that one line completes count twice, the line once
        BoxesGame two = Games.allBut(2, 1, 5);
        Check.same("P10 run of a double", two.count(9), 2);
        Check.same("P10 taking lines of a double", two.count(6), 1);
        // a run from the end of a row of four back to its start
        BoxesGame row = Games.on(4, 1, 0, 1, 2, 3, 4, 5, 6, 7, 12);
        Check.same("P10 run of a row", row.count(9), 4);
    }

    private static void scores() {
        BoxesGame game = Games.on(2, 1, 0, 2, 4, 5, 1, 3);
        Check.same("P11 score(1)", game.score(1), 1);
        Check.same("P11 score(0)", game.score(0), 0);
        game.draw(6);
        Check.same("P11 score(0) at the end", game.score(0), 0);
        Check.same("P11 score(1) at the end", game.score(1), 2);
        BoxesGame mixed = Games.on(2, 1, 0, 1, 2, 4, 5, 3, 6);
        Check.same("P11 mixed score(0)", mixed.score(0), 1);
        Check.same("P11 mixed score(1)", mixed.score(1), 1);
        for (int player : new int[] {-1, 2, Integer.MIN_VALUE, Integer.MAX_VALUE}) {
            Check.raises(mixed, "P11 score(" + player + ")", IllegalArgumentException.class, () -> mixed.score(player));
        }
    }

    private static void lineNumbers() {
        BoxesGame game = Games.on(3, 2);
        int due = 0;
        for (int y = 0; y <= 2; y++) {
            for (int x = 0; x < 3; x++) {
                Check.same("P12 line(false," + x + "," + y + ")", game.line(false, x, y), due++);
            }
        }
        for (int y = 0; y < 2; y++) {
            for (int x = 0; x <= 3; x++) {
                Check.same("P12 line(true," + x + "," + y + ")", game.line(true, x, y), due++);
            }
        }
        Check.same("P12 all lines", due, 17);
        int[][] wrong = {{0, 3, 0}, {0, 0, 3}, {0, -1, 0}, {0, 0, -1}, {1, 4, 0}, {1, 0, 2}, {1, -1, 0}, {1, 0, -1},
            {1, 3, 2}, {0, Integer.MAX_VALUE, 0}, {1, 0, Integer.MAX_VALUE}, {0, Integer.MIN_VALUE, Integer.MIN_VALUE}};
        for (int[] call : wrong) {
            Check.raises(game, "P12 line(" + (call[0] == 1) + "," + call[1] + "," + call[2] + ")",
                IndexOutOfBoundsException.class, () -> game.line(call[0] == 1, call[1], call[2]));
        }
    }

    private static void kinds() {
        BoxesGame game = Games.on(2, 2, 0, 2, 3);
        // drawn around box 0: h00 and h01; around box 1: h11; around box 2: h01; around box 3: h11
        int[] due = {0, 2, 0, 0, 2, 2, 3, 3, 2, 2, 2, 2};
        for (int line = 0; line < 12; line++) {
            Check.same("P13 kind(" + line + ")", game.kind(line), due[line]);
        }
        game.draw(6);
        Check.same("P13 taking", game.kind(7), 1);
        game.draw(8);
        game.draw(1);
        Check.same("P13 taking for both boxes", game.kind(7), 1);
        Check.same("P13 safe below", game.kind(4), 2);
        // v10 takes box 0 though box 1 would have one open side then
        BoxesGame both = Games.on(2, 1, 0, 2, 4, 1);
        Check.same("P13 taking goes before giving", both.kind(5), 1);
        for (int line : WRONG) {
            Check.raises(game, "P13 kind(" + line + ")", IndexOutOfBoundsException.class, () -> game.kind(line));
        }
        Check.raises(game, "P13 kind(12)", IndexOutOfBoundsException.class, () -> game.kind(12));
    }

    private static void prices() {
        BoxesGame game = Games.on(3, 1, 0, 1, 2, 3, 4, 5);
        for (int line = 6; line <= 9; line++) {
            Check.same("P14 price(" + line + ") in a chain", game.price(line), 3);
        }
        game.draw(7);
        // v10 is drawn: box 0 is open at its left, boxes 1 and 2 hang together
        Check.same("P14 price(6) without the box it completes", game.price(6), 2);
        Check.same("P14 price(8)", game.price(8), 2);
        Check.same("P14 price(9)", game.price(9), 3);
        BoxesGame fresh = Games.on(2, 2);
        Check.same("P14 price of a safe line", fresh.price(3), 0);
        BoxesGame two = Games.on(2, 2, 0, 2, 1);
        Check.same("P14 price of a giving line", two.price(6), 1);
        Check.same("P14 price of a line that opens no second box", two.price(7), 1);
        two.draw(3);
        Check.same("P14 price for two boxes", two.price(7), 2);
        for (int line : WRONG) {
            Check.raises(two, "P14 price(" + line + ")", IndexOutOfBoundsException.class, () -> two.price(line));
        }
        Check.raises(two, "P14 price(12)", IndexOutOfBoundsException.class, () -> two.price(12));
        Check.raises(two, "P14 price(2)", IllegalStateException.class, () -> two.price(2));
    }

    private static void drawnMoves() {
        BoxesGame game = Games.on(2, 2, 7, 3, 11);
        Check.same("P15 drawn(0)", game.drawn(0), 7);
        Check.same("P15 drawn(1)", game.drawn(1), 3);
        Check.same("P15 drawn(2)", game.drawn(2), 11);
        Check.raises(game, "P15 drawn(3)", IndexOutOfBoundsException.class, () -> game.drawn(3));
        game.undo();
        Check.raises(game, "P15 drawn(2) after undo", IndexOutOfBoundsException.class, () -> game.drawn(2));
        game.draw(0);
        Check.same("P15 drawn(2) after another move", game.drawn(2), 0);
        for (int move : WRONG) {
            Check.raises(game, "P15 drawn(" + move + ")", IndexOutOfBoundsException.class, () -> game.drawn(move));
        }
        BoxesGame ended = Games.allBut(4, 4);
        Check.same("P15 drawn(39)", ended.drawn(39), 39);
        Check.raises(ended, "P15 drawn(40)", IndexOutOfBoundsException.class, () -> ended.drawn(40));
    }

    private static void owners() {
        BoxesGame game = Games.on(2, 1, 0, 1, 2, 4, 5, 3, 6);
        Check.same("P16 owner(0)", game.owner(0), 0);
        Check.same("P16 owner(1)", game.owner(1), 1);
        game.undo();
        Check.same("P16 owner(1) after undo", game.owner(1), -1);
        Check.raises(game, "P16 owner(2)", IndexOutOfBoundsException.class, () -> game.owner(2));
        for (int box : new int[] {-1, 16, Integer.MIN_VALUE, Integer.MAX_VALUE}) {
            Check.raises(game, "P16 owner(" + box + ")", IndexOutOfBoundsException.class, () -> game.owner(box));
        }
        BoxesGame large = Games.on(4, 4);
        Check.same("P16 owner(15)", large.owner(15), -1);
        Check.raises(large, "P16 owner(16)", IndexOutOfBoundsException.class, () -> large.owner(16));
    }

    private static void openSides() {
        // box 4 is the middle one: above 4, below 7, left 17, right 18
        BoxesGame game = Games.on(3, 3);
        int[] lines = {4, 7, 17, 18};
        for (int i = 0; i < 4; i++) {
            Check.same("P17 openSides(4) before " + lines[i], game.openSides(4), 4 - i);
            game.draw(lines[i]);
        }
        int[] due = {4, 3, 4, 3, 0, 3, 4, 3, 4};
        for (int box = 0; box < 9; box++) {
            Check.same("P17 openSides(" + box + ")", game.openSides(box), due[box]);
        }
        game.undo();
        Check.same("P17 openSides(4) after undo", game.openSides(4), 1);
        Check.same("P17 openSides(5) after undo", game.openSides(5), 4);
        Check.raises(game, "P17 openSides(9)", IndexOutOfBoundsException.class, () -> game.openSides(9));
        for (int box : new int[] {-1, 16, Integer.MIN_VALUE, Integer.MAX_VALUE}) {
            Check.raises(game, "P17 openSides(" + box + ")", IndexOutOfBoundsException.class, () -> game.openSides(box));
        }
    }

    private static void safeMoves() {
        Check.same("P18 on 1 x 1", Games.on(1, 1).safeMoves(), 2);
        Check.same("P18 on 3 x 1", Games.on(3, 1).safeMoves(), 6);
        Check.same("P18 on 4 x 4", Games.on(4, 4).safeMoves(), 20);
        BoxesGame game = Games.on(3, 1);
        for (int line = 0; line <= 4; line++) {
            game.draw(line);
        }
        Check.same("P18 one left", game.safeMoves(), 1);
        game.draw(5);
        Check.same("P18 none left", game.safeMoves(), 0);
        Check.same("P18 changes nothing", game.count(3), 6);
        Check.same("P18 on 2 x 2", new BoxesGame().safeMoves(), 6);
        // the highest safe lines first would be 6, 5 and 4, and none then
        Check.same("P18 the lowest lines first", Games.on(2, 1).safeMoves(), 4);
        Check.same("P18 at the end", Games.allBut(2, 2).safeMoves(), 0);
        // a taking line is not drawn
        Check.same("P18 beside a taking line", Games.on(2, 2, 0, 2, 6).safeMoves(), 4);
    }

    public static void main(String[] args) {
        countAll();
        countRun();
        scores();
        lineNumbers();
        kinds();
        prices();
        drawnMoves();
        owners();
        openSides();
        safeMoves();
        Check.end();
    }
}
