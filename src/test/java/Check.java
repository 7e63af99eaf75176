/** Counts and prints the answers that are not as due. */
final class Check {
    interface Call {
        Object run();
    }

    private static int wrong = 0;
    private static int done = 0;

    private Check() {
    }

    static void same(String what, Object got, Object want) {
        done++;
        if (!got.equals(want)) {
            wrong++;
            if (wrong <= 50) {
                System.out.println(what + " answered " + got + ", due is " + want);
            }
        }
    }

    static void same(String what, long got, long want) {
        same(what, (Object) got, (Object) want);
    }

    /** The call's answer; if it throws, the name of the exception's class. */
    static Object answer(Call call) {
        try {
            return call.run();
        } catch (RuntimeException e) {
            return "throws " + e.getClass().getSimpleName();
        }
    }

    /** The call throws just this exception and leaves the game as it is. */
    static void raises(BoxesGame game, String what, Class<? extends RuntimeException> due, Call call) {
        // it takes in the moves, the owners and the buffer
        long before = game.digest();
        same(what, answer(call), "throws " + due.getSimpleName());
        same(what + " changes the state to", game.digest(), before);
    }

    static void end() {
        System.out.println(done + " answers, " + wrong + " of them wrong");
        if (wrong != 0) {
            System.exit(1);
        }
    }
}
