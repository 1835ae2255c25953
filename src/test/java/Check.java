/** What the tests share: answers are compared, and calls that must be refused are tried. */
final class Check {
    interface Call {
        long run();
    }

    private static int checks = 0;
    private static int wrong = 0;

    private Check() {
    }

    static void same(String what, long got, long want) {
        checks++;
        if (got != want) {
            wrong++;
            System.out.println(what + " answered " + got + ", due is " + want);
        }
    }

    static void same(String what, boolean got, boolean want) {
        same(what, got ? 1 : 0, want ? 1 : 0);
    }

    static void sameShare(String what, double got, double want) {
        checks++;
        if (got != want) {
            wrong++;
            System.out.println(what + " answered " + got + ", due is " + want);
        }
    }

    /** The writer's text: a to z, and a blank. */
    static void sameText(String what, SharedPalimpsest x, int writer, String want) {
        checks++;
        String got = text(x, writer);
        if (!got.equals(want)) {
            wrong++;
            System.out.println(what + ": text \"" + got + "\", due is \"" + want + "\"");
        }
    }

    static String text(SharedPalimpsest x, int writer) {
        StringBuilder text = new StringBuilder();
        for (int position = 0; position < x.length(writer); position++) {
            int letter = x.letterAt(writer, position);
            text.append(letter == 26 ? ' ' : (char) ('a' + letter));
        }
        return text.toString();
    }

    static void noWriter(SharedPalimpsest x, String what, Call call) {
        refused(x, "IndexOutOfBoundsException", what, call);
    }

    static void wrongArgument(SharedPalimpsest x, String what, Call call) {
        refused(x, "IllegalArgumentException", what, call);
    }

    static void wrongState(SharedPalimpsest x, String what, Call call) {
        refused(x, "IllegalStateException", what, call);
    }

    /** The exception must be of this very class, and all that can be asked be as it was. */
    private static void refused(SharedPalimpsest x, String due, String what, Call call) {
        checks++;
        long before = x.digest();
        String got = "nothing";
        try {
            call.run();
        } catch (RuntimeException e) {
            got = e.getClass().getSimpleName();
        }
        if (!got.equals(due) || x.digest() != before) {
            wrong++;
            System.out.println(what + " threw " + got + ", due is " + due
                    + (x.digest() == before ? "" : "; and it changed something"));
        }
    }

    static void end(String name) {
        System.out.println(name + ": " + checks + " checks, " + wrong + " wrong");
        if (wrong != 0 || checks == 0) {
            System.exit(1);
        }
    }
}
