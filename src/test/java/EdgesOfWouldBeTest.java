import java.math.BigInteger;

/** The boundary cases that promises 47 to 51 name, and runs of as many calls as are promised. */
public final class EdgesOfWouldBeTest {
    private static final int CALLS_OF_AN_OBJECT = 512;

    public static void main(String[] arguments) {
        promise47();
        promise47NoOthers();
        promise48();
        promise48BehindAllDeeds();
        promise49();
        promise49CutOff();
        promise50();
        promise51New();
        promise51WrapsAround();
        promise51OneOrZero();
        promise51EachNumber();
        manyCallsOfOneKind();
        manyRefusedCalls();
        Check.end("EdgesOfWouldBeTest");
    }

    /** A new object with so many writers, which all know a text of so many letters by writer 0. */
    private static SharedPalimpsest writers(int many, int letters) {
        SharedPalimpsest x = new SharedPalimpsest();
        for (int i = 0; i < letters; i++) {
            x.type(0, i, i, 1);
        }
        for (int i = 1; i < many; i++) {
            x.join(0);
        }
        return x;
    }

    private static SharedPalimpsest six(int letters) {
        return writers(6, letters);
    }

    /** "how long its text would be if it knew all deeds that any writer knows that is PRESENT". */
    private static void promise47() {
        SharedPalimpsest x = six(0);
        Check.same("of no deeds", x.lengthOfAll(5), 0);
        for (int writer = 0; writer < 6; writer++) {
            for (int i = 0; i < 20; i++) {
                x.type(writer, 0, 0, 6);
            }
        }
        for (int writer = 0; writer < 6; writer++) {
            Check.same("the longest text", x.lengthOfAll(writer), 720);
            Check.same("its own is shorter", x.length(writer), 120);
        }
        SharedPalimpsest y = six(3);
        y.erase(1, 0, 2);
        y.erase(2, 1, 2);
        Check.same("shorter than each of theirs", y.lengthOfAll(0), 0);
        y.undo(2);
        Check.same("with an UNDO that it does not know", y.lengthOfAll(1), 1);
        Check.same("nothing is changed", y.length(0) * 10 + y.length(1), 31);
    }

    /** "(and no others)": not those of one that left, in channels or WAITING. */
    private static void promise47NoOthers() {
        SharedPalimpsest x = six(3);
        x.type(1, 0, 10, 2);
        x.type(1, 0, 10, 3);
        x.deliver(1, 2, 1);
        Check.same("1 is there", x.lengthOfAll(0), 8);
        Check.same("WAITING at 2", x.waiting(2), 1);
        x.leave(1);
        Check.same("what only waits is known to nobody", x.lengthOfAll(0), 3);
        Check.same("also where it waits", x.lengthOfAll(2), 3);
        SharedPalimpsest y = six(3);
        y.type(1, 0, 10, 2);
        y.deliver(1, 2, 0);
        y.leave(1);
        Check.same("one that is PRESENT knows it of one that left", y.lengthOfAll(0), 5);
        y.leave(2);
        Check.same("none does", y.lengthOfAll(0), 3);
    }

    /** "-1 if its DONE is empty". */
    private static void promise48() {
        SharedPalimpsest x = new SharedPalimpsest();
        Check.same("DONE is empty at first", x.lengthUndone(0), -1);
        x.type(0, 0, 0, 6);
        Check.same("an empty text would be", x.lengthUndone(0), 0);
        x.undo(0);
        Check.same("DONE is empty again", x.lengthUndone(0), -1);
        x.redo(0);
        Check.same("and is not", x.lengthUndone(0), 0);
        x.erase(0, 0, 6);
        Check.same("a longer text would be", x.lengthUndone(0), 6);
        Check.same("nothing is changed", x.length(0), 0);
        Check.same("DONE has both", x.undoable(0), 2);
        Check.same("as undo does", x.undo(0), 6);
        x.join(0);
        Check.same("DONE of one that joins is empty", x.lengthUndone(1), -1);
        SharedPalimpsest y = new SharedPalimpsest();
        for (int i = 0; i < 9; i++) {
            y.type(0, i, i, 1);
        }
        for (int left = 8; left >= 1; left--) {
            Check.same("one fewer", y.lengthUndone(0), left);
            y.undo(0);
        }
        Check.same("the first of nine is not DONE", y.lengthUndone(0), -1);
    }

    /** "behind an UNDO now (also if there are 120 deeds)". */
    private static void promise48BehindAllDeeds() {
        SharedPalimpsest x = new SharedPalimpsest();
        for (int i = 0; i < 120; i++) {
            x.type(0, 0, 0, 6);
            Check.same("without the last six", x.lengthUndone(0), 6 * i);
        }
        Check.wrongState(x, "undo itself", () -> x.undo(0));
        Check.same("as before", x.lengthUndone(0), 714);
        x.join(0);
        Check.same("DONE is empty, 120 deeds", x.lengthUndone(1), -1);
    }

    /** "if the channel from the other one were delivered to it, all of it, now". */
    private static void promise49() {
        SharedPalimpsest x = six(0);
        Check.same("an empty channel", x.wouldKnow(1, 0), 0);
        for (int i = 0; i < 120; i++) {
            x.type(0, 0, 0, 1);
            x.wouldKnow(1, 0);
        }
        for (int i = 0; i < 30; i++) {
            x.repeat(0, 1, 119);
        }
        Check.same("all of it", x.wouldKnow(1, 0), 120);
        Check.same("once more", x.wouldKnow(1, 0), 120);
        Check.same("nothing is changed", x.known(1) * 1000 + x.inChannel(0, 1), 150);
        Check.same("from the other one alone", x.wouldKnow(0, 1), 0);
        x.lose(0, 2, 0);
        Check.same("all would be WAITING", x.wouldKnow(2, 0), 0);
        Check.same("nothing waits by it", x.waiting(2), 0);
        x.lose(0, 3, 119);
        Check.same("all but the last one", x.wouldKnow(3, 0), 119);
        x.deliver(0, 4, 119);
        Check.same("the one that is WAITING counted", x.wouldKnow(4, 0), 120);
        Check.same("it is WAITING still", x.waiting(4), 1);
        x.catchUp(0, 5);
        Check.same("all of it is known", x.wouldKnow(5, 0), 0);
        Check.wrongArgument(x, "both are the same", () -> x.wouldKnow(0, 0));
    }

    /** "(also if they are CUT OFF)". */
    private static void promise49CutOff() {
        SharedPalimpsest x = six(0);
        x.type(0, 0, 0, 1);
        x.type(0, 0, 0, 1);
        x.cut(0, 1);
        Check.same("CUT OFF", x.wouldKnow(1, 0), 2);
        Check.same("CUT OFF, the other way", x.wouldKnow(0, 1), 0);
        Check.wrongState(x, "deliverAll itself", () -> x.deliverAll(0, 1));
        Check.wrongArgument(x, "both are the same", () -> x.wouldKnow(1, 1));
        x.cut(0, 1);
        Check.same("as deliverAll does", x.deliverAll(0, 1), 2);
    }

    /** "always 0". */
    private static void promise50() {
        Check.same("of a new one", new SharedPalimpsest().flaws(), 0);
        SharedPalimpsest x = six(3);
        for (int i = 0; i < 10; i++) {
            x.type(1, 0, 0, 6);
            x.repeat(1, 0, 0);
            Check.same("with deeds that wait", x.flaws(), 0);
            x.deliver(1, 2, x.inChannel(1, 2) - 1);
        }
        for (int i = 0; i < 8; i++) {
            x.undo(1);
            Check.same("with DONE and UNDONE", x.flaws(), 0);
        }
        for (int writer = 0; writer < 5; writer++) {
            x.leave(writer);
            Check.same("with fewer and fewer", x.flaws(), 0);
        }
        while (x.deeds() < 120) {
            x.type(5, 0, 0, 6);
        }
        Check.same("with all deeds", x.flaws(), 0);
    }

    /** "A number d starts with 58011; ... d becomes d * 31 + x". */
    private static void promise51New() {
        SharedPalimpsest x = new SharedPalimpsest();
        long d = 58011;
        for (int number : new int[] {1, 0, 1, 0, 0, 0, 0, 0, 0, 0, -1, 0, 0, 0, 0}) {
            d = d * 31 + number;
        }
        Check.same("of a new one", x.digest(), d);
        Check.same("which is changed by nothing", x.digest(), d);
    }

    /** "which wraps around as a 64-bit integer". */
    private static void promise51WrapsAround() {
        SharedPalimpsest x = new SharedPalimpsest();
        x.type(0, 0, 0, 4);
        BigInteger d = BigInteger.valueOf(58011);
        int[] numbers = {1, 1, 1, 0, 1, 1, 0, 1, 0, 4, -1, 4, 4, 1, 4, 0, 1, 2, 3, 0, 0, 0, 0};
        for (int number : numbers) {
            d = d.multiply(BigInteger.valueOf(31));
            d = d.add(BigInteger.valueOf(number));
        }
        Check.same("it is too great for 64 bits", d.bitLength() > 64, true);
        Check.same("so it wraps around", x.digest(), d.longValue());
    }

    /** "(whether something is so counts 1 or 0)": they do not agree, and are CUT OFF. */
    private static void promise51OneOrZero() {
        SharedPalimpsest x = writers(2, 0);
        x.type(0, 0, 0, 1);
        for (int isCut = 1; isCut >= 0; isCut--) {
            x.cut(0, 1);
            int[] numbers = {
                2, 1, 0,
                0, 1, 1, 0, 0, 1, 0, 1, -1, -1, 1, 1, 1, 1, 0, 0, 1, isCut, 1,
                1, 0, 0, 0, 0, 0, 0, 0, -1, -1, 0, 1, 0, 0, 0, isCut, 0,
            };
            long d = 58011;
            for (int number : numbers) {
                d = d * 31 + number;
            }
            Check.same("CUT OFF counts " + isCut, x.digest(), d);
        }
    }

    /** Each number that goes into it changes it, when it alone is changed. */
    private static void promise51EachNumber() {
        Check.NumberCall[] changes = {
            (x, n) -> x.moveCaret(0, 2), (x, n) -> x.cut(0, 1) ? 1 : 0, (x, n) -> x.join(0),
            (x, n) -> x.leave(2), (x, n) -> x.lose(0, 1, 1), (x, n) -> x.repeat(0, 1, 0),
            (x, n) -> x.deliver(0, 1, 0), (x, n) -> x.deliver(0, 1, 1),
            (x, n) -> x.mark(0, 0, 1, 0, false), (x, n) -> x.undo(0), (x, n) -> x.catchUp(0, 2),
            (x, n) -> x.typeAtCaret(1, 26, 1), (x, n) -> x.typeAtCaret(1, 25, 1),
        };
        long[] sums = new long[changes.length + 1];
        for (int i = 0; i <= changes.length; i++) {
            SharedPalimpsest x = writers(3, 3);
            x.erase(0, 1, 1);
            x.mark(0, 0, 2, 1, true);
            if (i < changes.length) {
                changes[i].run(x, 0);
            }
            sums[i] = x.digest();
            for (int other = 0; other < i; other++) {
                Check.same("change " + i + " is not " + other, sums[i] != sums[other], true);
            }
        }
    }

    /** "An object is used for at most 512 calls": of each kind, with six writers and 120 deeds. */
    private static void manyCallsOfOneKind() {
        Check.NumberCall[] calls = {
            (x, n) -> x.moveCaret(n % 6, n), (x, n) -> x.catchUp(n % 6, (n + 1) % 6),
            (x, n) -> x.deliverAll(n % 6, (n + 1) % 6), (x, n) -> x.cut(n % 5, 5) ? 1 : 0,
            (x, n) -> x.caretSeen(n % 6, n / 6 % 6), (x, n) -> x.cellAt(5, n),
            (x, n) -> x.letterAt(5, n), (x, n) -> x.lengthIn(n % 6, n % 95),
            (x, n) -> x.letterIn(5, 95, n), (x, n) -> x.find(n % 6, n % 27, n),
            (x, n) -> x.apart(n % 6, n / 6 % 6), (x, n) -> x.areAlike(n % 6, n / 6 % 6) ? 1 : 0,
            (x, n) -> x.lengthOfAll(n % 6), (x, n) -> x.wouldKnow(n % 6, (n + 1) % 6),
            (x, n) -> x.digest(), (x, n) -> x.flaws(), (x, n) -> (long) x.shareOf(n % 6, 0),
        };
        for (Check.NumberCall call : calls) {
            SharedPalimpsest x = new SharedPalimpsest();
            for (int i = 0; i < 95; i++) {
                x.type(0, i, i % 27, 6);
            }
            for (int i = 1; i < 6; i++) {
                x.join(0);
            }
            for (int i = 0; i < 25; i++) {
                x.type(i % 6, 0, i, 6);
            }
            for (int n = 0; n < CALLS_OF_AN_OBJECT - 125; n++) {
                Check.taken("call " + n, x, call, n);
            }
            Check.same("nothing is amiss", x.flaws(), 0);
        }
    }

    /** A call that throws is a call as well, and leaves all as it was, however many there are. */
    private static void manyRefusedCalls() {
        SharedPalimpsest x = six(3);
        x.cut(0, 1);
        long before = x.digest();
        for (int n = 0; n < 100; n++) {
            int each = n;
            Check.noWriter(x, "no writer", () -> x.type(6 + each, 0, 0, 1));
            Check.wrongArgument(x, "no position", () -> x.type(0, 4 + each, 0, 1));
            Check.wrongState(x, "CUT OFF", () -> x.catchUp(0, 1));
            Check.wrongState(x, "UNDONE is empty", () -> x.redo(0));
        }
        Check.same("as it was", x.digest(), before);
        Check.same("the next deed", x.type(0, 3, 3, 1), 4);
    }
}
