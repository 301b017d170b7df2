/** A call that does not end must fail its test, not hang it. */
final class Watch {
    private static final long MOST_MILLISECONDS = 120_000;

    private static boolean started = false;

    private Watch() { }

    static void start() {
        if (started) {
            return;
        }
        started = true;
        Thread watcher = new Thread(Watch::stopLate);
        watcher.setDaemon(true);
        watcher.start();
    }

    private static void stopLate() {
        try {
            Thread.sleep(MOST_MILLISECONDS);
        } catch (InterruptedException ended) {
            return;
        }
        System.out.println("the test does not end; its last known call: " + Room.lastCall());
        Runtime.getRuntime().halt(1);
    }
}
