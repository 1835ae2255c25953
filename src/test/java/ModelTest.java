import java.lang.reflect.InvocationTargetException;
import java.lang.reflect.Method;

/**
 * Long runs of calls, right and wrong ones, on SharedPalimpsest and on PlainModel: each answer
 * and each exception must be the same. The calls are drawn from a fixed row of numbers, so that
 * each run of this test makes the same ones.
 *
 * <p>Arguments: how many runs (400), and the number of the first one (1).
 */
public final class ModelTest {
    /**
     * A method, how often it is called, and what its arguments are: w a writer, a an author, p a
     * position, l a letter, m how many letters, M how many cells, k a kind, b on or off, c a place
     * of a channel, v a version, s a place among the cells.
     */
    private static final String[] CALLS = {
        "type 30 wplm", "typeAtCaret 16 wlm", "erase 14 wpM", "mark 20 wpMkb", "undo 16 w",
        "redo 16 w", "moveCaret 6 wp", "deliver 30 wwc", "deliverAll 14 ww", "lose 4 wwc",
        "repeat 6 wwc", "catchUp 6 ww", "cut 3 ww", "join 3 w", "leave 1 w", "writers 1 ",
        "isPresent 1 a", "deeds 1 ", "deedsOf 1 a", "known 1 w", "knownOf 2 wa", "waiting 2 w",
        "inChannel 2 ww", "areCut 1 ww", "missing 2 ww", "agree 1 ", "undoable 1 w",
        "redoable 1 w", "caret 3 w", "caretSeen 5 wa", "length 2 w", "cellsOf 2 w",
        "letterAt 3 wp", "authorAt 3 wp", "stampAt 3 wp", "marksAt 6 wp", "cellAt 4 ws",
        "lengthIn 3 wv", "letterIn 3 wvp", "find 3 wlp", "words 3 w", "longestBy 3 wa",
        "shareOf 3 wa", "apart 2 ww", "areAlike 2 ww", "lengthOfAll 2 w", "lengthUndone 3 w",
        "wouldKnow 3 ww", "flaws 1 ", "digest 2 ",
    };
    private static final int DEED_CALLS = 6;
    private static final int CALLS_A_RUN = 512;

    private static long seed;

    private static int draw(int bound) {
        seed = seed * 6364136223846793005L + 1442695040888963407L;
        return (int) Math.floorMod(seed >>> 33, (long) bound);
    }

    public static void main(String[] arguments) throws Exception {
        int runs = arguments.length > 0 ? Integer.parseInt(arguments[0]) : 400;
        int first = arguments.length > 1 ? Integer.parseInt(arguments[1]) : 1;
        for (int run = first; run < first + runs; run++) {
            if (!isRunTheSame(run)) {
                System.exit(1);
            }
        }
        System.out.println(runs + " runs of " + CALLS_A_RUN + " calls answered as the model");
    }

    private static boolean isRunTheSame(int run) throws Exception {
        seed = run * 7919L;
        SharedPalimpsest made = new SharedPalimpsest();
        PlainModel model = new PlainModel();
        int wrongness = draw(4) == 0 ? 6 : 40;
        int slowness = draw(6);
        int repeats = draw(5) == 0 ? 40 : 1;
        int early = draw(7);
        StringBuilder told = new StringBuilder();
        for (int i = 0; i < CALLS_A_RUN; i++) {
            boolean isEarly = i < early && draw(3) > 0;
            String[] call = isEarly ? new String[] {"join", "0", "w"} : drawCall(slowness, repeats);
            Object[] arguments = drawArguments(call[2], model, wrongness);
            Method method = find(SharedPalimpsest.class, call[0]);
            Object got = answer(made, method, arguments);
            Object want = answer(model, find(PlainModel.class, call[0]), arguments);
            told.append(call[0]).append(java.util.Arrays.toString(arguments)).append(" = ")
                    .append(want).append('\n');
            if (!got.equals(want) || !isDigestTheSame(made, model, want, i)) {
                System.out.println("run " + run + ", call " + i + ":\n" + told + "but answered "
                        + got + ", digest " + made.digest() + " and not " + model.digest());
                return false;
            }
        }
        return true;
    }

    /** Behind a call that is refused, and now and then, all that digest() shows is compared. */
    private static boolean isDigestTheSame(
            SharedPalimpsest made, PlainModel model, Object answer, int call) {
        boolean isDue = answer instanceof String && call % 8 == 0 || call % 64 == 63;
        return !isDue || made.digest() == model.digest() && made.flaws() == 0;
    }

    private static String[] drawCall(int slowness, int repeats) {
        int sum = 0;
        for (int i = 0; i < CALLS.length; i++) {
            sum += weight(i, slowness, repeats);
        }
        int left = draw(sum);
        for (int i = 0; i < CALLS.length; i++) {
            left -= weight(i, slowness, repeats);
            if (left < 0) {
                return CALLS[i].split(" ", -1);
            }
        }
        throw new IllegalStateException("no call drawn");
    }

    private static int weight(int call, int slowness, int repeats) {
        int weight = 10 * Integer.parseInt(CALLS[call].split(" ", -1)[1]);
        if (CALLS[call].startsWith("repeat ")) {
            return weight * repeats;
        }
        return call < DEED_CALLS ? weight / (1 + slowness) : weight;
    }

    private static Object[] drawArguments(String kinds, PlainModel model, int wrongness) {
        Object[] arguments = new Object[kinds.length()];
        int writer = 0;
        int other = 0;
        for (int i = 0; i < arguments.length; i++) {
            char kind = kinds.charAt(i);
            boolean isWrong = draw(wrongness) == 0;
            if (kind == 'b') {
                arguments[i] = draw(2) == 1;
                continue;
            }
            int bound = bound(kind, model, writer, other);
            int lowest = kind == 'm' || kind == 'M' ? 1 : 0;
            int number = isWrong ? drawWrong(bound) : lowest + draw(Math.max(1, bound));
            if (kind == 'l' && !isWrong && draw(3) == 0) {
                number = 26 - draw(4);
            }
            if (kind == 'w' && !isWrong) {
                number = drawPresent(model, i == 1 ? writer : -1);
            }
            arguments[i] = number;
            writer = i == 0 ? number : writer;
            other = i == 1 ? number : other;
        }
        return arguments;
    }

    private static int drawWrong(int bound) {
        int[] wrong = {-1, bound, bound + 1, bound + 2, 0, 7, 13, 150, Integer.MAX_VALUE,
            Integer.MAX_VALUE - 11, Integer.MIN_VALUE, Integer.MAX_VALUE / 6, -2};
        return wrong[draw(wrong.length)];
    }

    private static int drawPresent(PlainModel model, int butNot) {
        for (int i = 0; i < 40; i++) {
            int number = draw(model.writers());
            if (number != butNot && model.isPresent(number)) {
                return number;
            }
        }
        return 0;
    }

    private static int bound(char kind, PlainModel model, int writer, int other) {
        boolean isThere = model.isPresent(writer);
        switch (kind) {
            case 'a': return model.writers();
            case 'p': return isThere ? model.length(writer) + draw(2) : 1;
            case 'l': return 27;
            case 'm': return 6;
            case 'M': return 1 + draw(12);
            case 'k': return 3;
            case 'v': return isThere ? model.known(writer) + 1 : 1;
            case 's': return isThere ? model.cellsOf(writer) : 1;
            case 'c':
                boolean hasChannel = isThere && model.isPresent(other) && writer != other;
                return hasChannel ? model.inChannel(writer, other) : 1;
            default: return 6;
        }
    }

    private static Method find(Class<?> where, String name) {
        for (Method method : where.getDeclaredMethods()) {
            if (method.getName().equals(name)) {
                method.setAccessible(true);
                return method;
            }
        }
        throw new IllegalStateException("no method " + name);
    }

    private static Object answer(Object object, Method method, Object[] arguments)
            throws IllegalAccessException {
        try {
            return method.invoke(object, arguments);
        } catch (InvocationTargetException e) {
            return "throws." + e.getCause().getClass().getSimpleName();
        }
    }
}
