/** What the tests share: they say what is due, and count what is not as due. */
final class Checks {
    private static int wrong = 0;
    private static int made = 0;
    private static String sentence = "";

    private Checks() {
    }

    /** The words of the document that the checks after this are for: they are told with what is not as due. */
    static void sentence(String words) {
        sentence = "\"" + words + "\": ";
    }

    static void due(String what, long got, long want) {
        made++;
        if (got != want) {
            wrong++;
            System.out.println(sentence + what + " is " + got + ", due is " + want);
        }
    }

    static void due(String what, boolean got, boolean want) {
        due(what, got ? 1 : 0, want ? 1 : 0);
    }

    /** Ends the test: with exit code 1 if something was not as due, or if nothing was looked at. */
    static void end() {
        System.out.println(made + " checks, " + wrong + " wrong");
        if (wrong != 0 || made == 0) {
            System.exit(1);
        }
    }

    /** Puts these bytes into the cells from a on. */
    static void put(PocketConsole c, int a, int... bytes) {
        for (int i = 0; i < bytes.length; i++) {
            if (!c.put(a + i, bytes[i])) {
                throw new IllegalStateException("cell " + (a + i) + " can't be put");
            }
        }
    }

    /** A new console with these bytes from cell 0 on. */
    static PocketConsole with(int... program) {
        PocketConsole c = new PocketConsole();
        put(c, 0, program);
        return c;
    }
}
