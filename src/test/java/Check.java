/** Counts what differs from what is due, and ends the test. */
final class Check {
    private static int wrong = 0;
    private static int asked = 0;
    private static String where = "";

    private Check() {
    }

    /** One sentence of the document, by the promise that holds it, with a test of its own. */
    static void edge(String promise, String words, Runnable test) {
        int before = asked;
        where = promise + ", \"" + words + "\": ";
        try {
            test.run();
        } catch (RuntimeException e) {
            that("the test threw " + e, false);
        }
        that("nothing was asked", asked > before);
        where = "";
    }

    static void same(String what, long got, long due) {
        asked++;
        if (got != due) {
            wrong++;
            System.out.println(where + what + " answered " + got + ", due is " + due);
        }
    }

    static void that(String what, boolean holds) {
        same(what, holds ? 1 : 0, 1);
    }

    /** The class must be the very one: the machine's own exceptions are subclasses of those that are due. */
    static void fails(String what, Class<? extends RuntimeException> due, Runnable call) {
        asked++;
        Class<?> got = null;
        try {
            call.run();
        } catch (RuntimeException e) {
            got = e.getClass();
        }
        if (got != due) {
            wrong++;
            System.out.println(where + what + " threw " + got + ", due is " + due);
        }
    }

    static void end() {
        System.out.println(asked + " answers, " + wrong + " wrong");
        System.exit(wrong == 0 && asked > 0 ? 0 : 1);
    }
}
