/** Promises 23 and 24: outcome, worth. */
public final class ExactTest {
    /** An opened row of four above a closed one; player 0 drew last. */
    private static BoxesGame openedRow() {
        return Games.allBut(4, 2, 13, 14, 15, 16, 17, 18, 19, 20, 21);
    }

    private static void outcomes() {
        Check.same("P23 no open line", Games.allBut(4, 4).outcome(), 0);
        Check.same("P23 the last line", Games.allBut(1, 1, 2).outcome(), 1);
        Check.same("P23 two boxes at once", Games.allBut(2, 1, 5).outcome(), 2);
        Check.same("P23 new 1 x 1", Games.on(1, 1).outcome(), -1);
        Check.same("P23 chain of three", Games.on(3, 1, 0, 1, 2, 3, 4, 5).outcome(), -3);
        Check.same("P23 loop of four", Games.on(2, 2, 0, 1, 4, 5, 6, 8, 9, 11).outcome(), -4);
        Check.same("P23 two single boxes", Games.on(1, 2, 0, 1, 2).outcome(), 0);
        // two boxes are left to the other player, who then must open the four
        Check.same("P23 opened row above a closed one", openedRow().outcome(), 4);
        Check.same("P23 is for who is to move", Games.on(3, 1, 0, 1, 2, 3, 4, 5, 6).outcome(), 3);
        BoxesGame rows = Games.on(3, 2, 0, 1, 2, 3, 4, 5, 6, 7, 8);
        Check.same("P23 two rows of three", rows.outcome(), -rows.prediction());
        Check.same("P23 changes nothing", rows.count(3), 9);
    }

    private static void outcomeOfTwelve() {
        BoxesGame game = Games.on(3, 2, 0, 1, 2, 3);
        Check.raises(game, "P23 13 open lines", IllegalStateException.class, () -> game.outcome());
        Check.raises(game, "P24 13 open lines", IllegalStateException.class, () -> game.worth(4));
        game.draw(4);
        ReferenceGame reference = new ReferenceGame();
        Check.same("P23 12 open lines on the first board", new BoxesGame().outcome(), reference.outcome());
        reference.begin(3, 2);
        for (int line = 0; line <= 4; line++) {
            reference.draw(line);
        }
        Check.same("P23 12 open lines", game.outcome(), reference.outcome());
        for (int line = 5; line < 17; line++) {
            Check.same("P24 worth(" + line + ") of 12", game.worth(line), reference.worth(line));
        }
        game.undo();
        Check.raises(game, "P23 13 open lines again", IllegalStateException.class, () -> game.outcome());
        BoxesGame large = Games.on(4, 4);
        Check.raises(large, "P23 40 open lines", IllegalStateException.class, () -> large.outcome());
    }

    private static void worths() {
        BoxesGame chain = Games.on(3, 1, 0, 1, 2, 3, 4, 5);
        for (int line = 6; line <= 9; line++) {
            Check.same("P24 worth(" + line + ") in a chain", chain.worth(line), -3);
        }
        BoxesGame two = Games.on(2, 1, 0, 1, 2, 3, 4);
        Check.same("P24 taking", two.worth(5), 2);
        // both boxes are left to the other player
        Check.same("P24 not taking", two.worth(6), -2);
        BoxesGame opened = openedRow();
        Check.same("P24 taking the first of four", opened.worth(13), 4);
        Check.same("P24 opening the other row", opened.worth(17), -8);
        opened.draw(13);
        opened.draw(14);
        Check.same("P24 taking the third of four", opened.worth(15), -2);
        Check.same("P24 leaving two of four", opened.worth(16), 2);
        Check.same("P23 best of these", opened.outcome(), 2);
        opened.undo();
        opened.undo();
        Check.same("P23 after undo", opened.outcome(), 4);
        BoxesGame box = Games.on(1, 1, 0);
        Check.same("P23 one line drawn", box.outcome(), 1);
        box.undo();
        Check.same("P23 one line undone", box.outcome(), -1);
        box.draw(3);
        Check.same("P23 another line drawn", box.outcome(), 1);
    }

    private static void outcomeIsGreatestWorth() {
        BoxesGame game = Games.on(3, 3, 0, 1, 2, 5, 7, 9, 12, 15, 16, 18, 20, 23);
        for (int i = 0; i < 12; i++) {
            int greatest = -100;
            for (int line = 0; line < 24; line++) {
                if (game.kind(line) != 0) {
                    greatest = Math.max(greatest, game.worth(line));
                }
            }
            Check.same("P23 outcome after " + i, game.outcome(), greatest);
            game.follow(0, 1);
        }
    }

    private static void worthWrong() {
        BoxesGame game = Games.on(2, 2, 3);
        for (int line : new int[] {-1, 12, 40, Integer.MIN_VALUE, Integer.MAX_VALUE}) {
            Check.raises(game, "P24 worth(" + line + ")", IndexOutOfBoundsException.class, () -> game.worth(line));
        }
        Check.raises(game, "P24 worth(3)", IllegalStateException.class, () -> game.worth(3));
        BoxesGame large = Games.on(4, 4, 3);
        Check.raises(large, "P24 no line and many open", IndexOutOfBoundsException.class, () -> large.worth(40));
        Check.raises(large, "P24 drawn and many open", IllegalStateException.class, () -> large.worth(3));
        Check.raises(large, "P24 many open", IllegalStateException.class, () -> large.worth(4));
    }

    public static void main(String[] args) {
        outcomes();
        outcomeOfTwelve();
        worths();
        outcomeIsGreatestWorth();
        worthWrong();
        Check.end();
    }
}
