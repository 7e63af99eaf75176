import java.util.concurrent.TimeUnit;

/** Runs the main method of a test and ends it with 1 if it takes too long: no call may fail to end. */
public final class Within {
    private static final int MINUTES = 5;

    private static void endLate(String test) {
        try {
            TimeUnit.MINUTES.sleep(MINUTES);
        } catch (InterruptedException e) {
            return;
        }
        System.out.println(test + " has not ended within " + MINUTES + " minutes");
        Runtime.getRuntime().halt(1);
    }

    public static void main(String[] args) throws ReflectiveOperationException {
        String test = args[0];
        Thread watch = new Thread(() -> endLate(test));
        watch.setDaemon(true);
        watch.start();
        Class.forName(test).getMethod("main", String[].class).invoke(null, (Object) new String[0]);
    }
}
