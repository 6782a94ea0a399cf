/**
 * Rule 7 of LANGUAGE.md: no call fails to end. A test that begins with a watch ends with 1 if it takes many times
 * as long as it needs, rather than never.
 */
final class Watch {
    /** No test of the project needs more than some ten seconds; -Dwatch=SECONDS sets another limit. */
    static final int SECONDS = Integer.getInteger("watch", 300);

    private Watch() {
    }

    static void begin() {
        begin(SECONDS);
    }

    static void begin(int seconds) {
        Thread tested = Thread.currentThread();
        Thread watch = new Thread(() -> {
            try {
                Thread.sleep(seconds * 1000L);
            } catch (InterruptedException e) {
                return;
            }
            System.out.println("not at its end behind " + seconds + " seconds:");
            for (StackTraceElement call : tested.getStackTrace()) {
                System.out.println("  " + call);
            }
            Runtime.getRuntime().halt(1);
        });
        watch.setDaemon(true);
        watch.start();
    }
}
