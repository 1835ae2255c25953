/** What the tests share: answers are compared, and calls that must be refused are tried. */
final class Check {
    interface Call {
        long run();
    }

    interface Maker {
        SharedPalimpsest make();
    }

    interface NumberCall {
        long run(SharedPalimpsest x, int number);
    }

    private static int checks = 0;
    private static int wrong = 0;

    private Check() {
    }

    static void same(String what, long got, long want) {
        checks++;
        if (got != want) {
            wrong++;
            System.out.println(what + " answered " + got + ", due is " + want);
        }
    }

    static void same(String what, boolean got, boolean want) {
        same(what, got ? 1 : 0, want ? 1 : 0);
    }

    static void sameShare(String what, double got, double want) {
        checks++;
        if (got != want) {
            wrong++;
            System.out.println(what + " answered " + got + ", due is " + want);
        }
    }

    /** The writer's text: a to z, and a blank. */
    static void sameText(String what, SharedPalimpsest x, int writer, String want) {
        checks++;
        String got = text(x, writer);
        if (!got.equals(want)) {
            wrong++;
            System.out.println(what + ": text \"" + got + "\", due is \"" + want + "\"");
        }
    }

    static String text(SharedPalimpsest x, int writer) {
        StringBuilder text = new StringBuilder();
        for (int position = 0; position < x.length(writer); position++) {
            int letter = x.letterAt(writer, position);
            text.append(letter == 26 ? ' ' : (char) ('a' + letter));
        }
        return text.toString();
    }

    static void noWriter(SharedPalimpsest x, String what, Call call) {
        refused(x, "IndexOutOfBoundsException", what, call);
    }

    static void wrongArgument(SharedPalimpsest x, String what, Call call) {
        refused(x, "IllegalArgumentException", what, call);
    }

    static void wrongState(SharedPalimpsest x, String what, Call call) {
        refused(x, "IllegalStateException", what, call);
    }

    /** The call is taken, each on a new object, from low to high, and refused beyond these. */
    static void range(String what, Maker maker, NumberCall call, int low, int high) {
        for (int number = low; number <= high; number++) {
            taken(what + " " + number, maker.make(), call, number);
        }
        SharedPalimpsest x = maker.make();
        for (int number : new int[] {low - 1, high + 1, Integer.MAX_VALUE, Integer.MIN_VALUE}) {
            wrongArgument(x, what + " " + number, () -> call.run(x, number));
        }
    }

    static void taken(String what, SharedPalimpsest x, NumberCall call, int number) {
        checks++;
        try {
            call.run(x, number);
        } catch (RuntimeException e) {
            wrong++;
            System.out.println(what + " threw " + e.getClass().getSimpleName() + ", due is none");
        }
    }

    /** All that can be asked, in one number. */
    private static long all(SharedPalimpsest x) {
        long sum = x.digest();
        for (int writer = 0; writer < 6; writer++) {
            sum = sum * 31 + (x.isPresent(writer) ? 1 : 0);
            sum = sum * 31 + (writer < x.writers() ? x.deedsOf(writer) : -1);
            if (x.isPresent(writer)) {
                sum = sum * 31 + allOf(x, writer);
            }
        }
        return sum;
    }

    private static long allOf(SharedPalimpsest x, int writer) {
        long sum = x.lengthUndone(writer);
        for (int version = 0; version <= x.known(writer); version++) {
            sum = sum * 31 + x.lengthIn(writer, version);
        }
        for (int position = 0; position < x.length(writer); position++) {
            sum = sum * 31 + x.stampAt(writer, position);
        }
        for (int other = 0; other < x.writers(); other++) {
            if (other != writer && x.isPresent(other)) {
                sum = sum * 31 + x.wouldKnow(writer, other);
            }
        }
        return sum;
    }

    /** The exception must be of this very class, and all that can be asked be as it was. */
    private static void refused(SharedPalimpsest x, String due, String what, Call call) {
        checks++;
        long before = all(x);
        String got = "nothing";
        try {
            call.run();
        } catch (RuntimeException e) {
            got = e.getClass().getSimpleName();
        }
        boolean isSame = all(x) == before;
        if (!got.equals(due) || !isSame) {
            wrong++;
            System.out.println(what + " threw " + got + ", due is " + due
                    + (isSame ? "" : "; and it changed something"));
        }
    }

    static void end(String name) {
        System.out.println(name + ": " + checks + " checks, " + wrong + " wrong");
        if (wrong != 0 || checks == 0) {
            System.exit(1);
        }
    }
}
