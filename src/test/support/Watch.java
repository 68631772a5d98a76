/** A call that does not end is a fault like another: the test ends, and tells it. */
final class Watch {
    private static final long MOST_SECONDS = 120;

    private Watch() {
    }

    static void begin() {
        Thread watch = new Thread(() -> {
            try {
                Thread.sleep(MOST_SECONDS * 1000);
            } catch (InterruptedException e) {
                return;
            }
            System.out.println("the test did not end in " + MOST_SECONDS + " seconds; it stood here:");
            Thread.getAllStackTraces().forEach((thread, stack) -> {
                if (thread.getName().equals("main")) for (StackTraceElement at : stack) System.out.println("  " + at);
            });
            Runtime.getRuntime().halt(1);
        });
        watch.setDaemon(true);
        watch.start();
    }
}
