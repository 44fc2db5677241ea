/** What all tests share: it prints every answer that is not the one due, and ends with 1 if there was one. */
final class Check {
    private static int asked = 0;
    private static int wrong = 0;

    private static final long MOST_SECONDS = 300;

    static {
        Thread watch = new Thread(Check::endUnlessDone);
        watch.setDaemon(true);
        watch.start();
    }

    private Check() {
    }

    /** A call that doesn't end would keep .ci/run waiting instead of failing. */
    private static void endUnlessDone() {
        try {
            Thread.sleep(MOST_SECONDS * 1000);
        } catch (InterruptedException e) {
            return;
        }
        System.out.println("a call doesn't end: " + MOST_SECONDS + " seconds are over");
        Runtime.getRuntime().halt(1);
    }

    static void due(String call, long got, long want) {
        asked++;
        if (got != want) {
            wrong++;
            System.out.println(call + " answered " + got + ", due is " + want);
        }
    }

    static void holds(String what, boolean right) {
        asked++;
        if (!right) {
            wrong++;
            System.out.println("not so: " + what);
        }
    }

    static void end() {
        System.out.println(asked + " asked, " + wrong + " wrong");
        if (wrong != 0) System.exit(1);
    }

    /** Brings a whole text to THE TAPE, a byte at a time. */
    static void feedText(LateSeekers x, String text) {
        for (int i = 0; i < text.length(); i++) x.feed(text.charAt(i), 1);
    }

    static LateSeekers parkOf(String text) {
        LateSeekers x = new LateSeekers();
        feedText(x, text);
        int people = x.park();
        holds("the text stands: " + text + " (" + people + ")", people >= 0);
        return x;
    }
}
