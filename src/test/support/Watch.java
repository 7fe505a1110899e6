import java.util.function.Supplier;

/** Ends a test that does not end by itself, since a call that never answers is as wrong as one that answers falsely. */
final class Watch {
    private static final long LONGEST_MILLIS = 600_000;

    private Watch() {
    }

    static void start(Supplier<String> whereItStands) {
        Thread watch = new Thread(() -> endLate(whereItStands));
        watch.setDaemon(true);
        watch.start();
    }

    private static void endLate(Supplier<String> whereItStands) {
        try {
            Thread.sleep(LONGEST_MILLIS);
        } catch (InterruptedException stopped) {
            return;
        }
        System.out.println(whereItStands.get() + " | has not ended");
        Runtime.getRuntime().halt(1);
    }
}
