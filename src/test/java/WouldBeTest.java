/** Promises 47 to 51: what would be. */
public final class WouldBeTest {
    private static final int[] NO_WRITERS = {-1, 3, 6, Integer.MAX_VALUE, Integer.MIN_VALUE};

    public static void main(String[] arguments) {
        promise47LengthOfAll();
        promise48LengthUndone();
        promise49WouldKnow();
        promise50Flaws();
        promise51Digest();
        promise51DigestByTheCalls();
        Check.end("WouldBeTest");
    }

    /** Writers 0 to 2, which all know "abcdef" by 0. */
    private static SharedPalimpsest three() {
        SharedPalimpsest x = new SharedPalimpsest();
        x.type(0, 0, 0, 6);
        x.join(0);
        x.join(0);
        return x;
    }

    private static void promise47LengthOfAll() {
        SharedPalimpsest x = three();
        Check.same("all know the same", x.lengthOfAll(1), 6);
        x.type(1, 0, 10, 3);
        x.erase(2, 0, 2);
        x.erase(0, 1, 2);
        for (int writer = 0; writer < 3; writer++) {
            Check.same("lengthOfAll(" + writer + ")", x.lengthOfAll(writer), 6);
        }
        long before = x.digest();
        x.lengthOfAll(0);
        Check.same("nothing is changed", x.digest() - before, 0);
        x.undo(2);
        Check.same("with an UNDO", x.lengthOfAll(0), 7);
        x.undo(0);
        x.redo(2);
        Check.same("with a REDO", x.lengthOfAll(1), 7);
        x.leave(1);
        Check.same("what only one knew that left", x.lengthOfAll(0), 4);
        Check.same("its own text", x.length(0), 6);
        Check.same("of an empty text", new SharedPalimpsest().lengthOfAll(0), 0);
        Check.noWriter(x, "lengthOfAll of one that left", () -> x.lengthOfAll(1));
        for (int writer : NO_WRITERS) {
            Check.noWriter(x, "lengthOfAll(" + writer + ")", () -> x.lengthOfAll(writer));
        }
    }

    private static void promise48LengthUndone() {
        SharedPalimpsest x = three();
        Check.same("of a TYPE", x.lengthUndone(0), 0);
        Check.same("of nothing", x.lengthUndone(1), -1);
        x.erase(0, 1, 2);
        Check.same("of an ERASE", x.lengthUndone(0), 6);
        x.mark(0, 0, 1, 0, true);
        Check.same("of a MARK", x.lengthUndone(0), 4);
        long before = x.digest();
        x.lengthUndone(0);
        Check.same("nothing is changed", x.digest() - before, 0);
        x.undo(0);
        Check.same("of the one ahead of what is undone", x.lengthUndone(0), 6);
        x.redo(0);
        Check.same("of what was redone", x.lengthUndone(0), 4);
        x.undo(0);
        x.undo(0);
        x.undo(0);
        Check.same("of DONE that is empty again", x.lengthUndone(0), -1);
        x.erase(1, 0, 3);
        x.erase(2, 2, 3);
        x.deliverAll(2, 1);
        Check.same("also hidden by another one", x.lengthUndone(1), 3);
        while (x.deeds() < 120) {
            x.mark(2, 0, 1, 0, true);
        }
        Check.same("behind 120 deeds", x.lengthUndone(1), 3);
        Check.wrongState(x, "undo behind 120 deeds", () -> x.undo(1));
        for (int writer : NO_WRITERS) {
            Check.noWriter(x, "lengthUndone(" + writer + ")", () -> x.lengthUndone(writer));
        }
    }

    private static void promise49WouldKnow() {
        SharedPalimpsest x = three();
        Check.same("of an empty channel", x.wouldKnow(1, 0), 0);
        x.type(0, 0, 0, 1);
        x.type(0, 0, 0, 1);
        x.type(0, 0, 0, 1);
        x.repeat(0, 1, 0);
        Check.same("each once", x.wouldKnow(1, 0), 3);
        Check.same("the other way", x.wouldKnow(0, 1), 0);
        x.deliver(0, 1, 1);
        Check.same("with one that waits", x.wouldKnow(1, 0), 3);
        x.lose(0, 1, 2);
        x.lose(0, 1, 0);
        Check.same("without the first one", x.wouldKnow(1, 0), 0);
        x.cut(0, 2);
        Check.same("CUT OFF", x.wouldKnow(2, 0), 3);
        x.catchUp(0, 1);
        x.type(1, 0, 1, 1);
        Check.same("what is known already", x.wouldKnow(1, 0), 0);
        Check.same("waits for what 0 did", x.wouldKnow(2, 1), 0);
        long before = x.digest();
        x.wouldKnow(2, 0);
        x.wouldKnow(2, 1);
        Check.same("nothing is changed", x.digest() - before, 0);
        Check.same("the channel is as it was", x.inChannel(0, 2), 3);
        Check.same("known() is as it was", x.known(2), 1);
        x.deliverAll(1, 2);
        Check.same("with what waits from 1", x.wouldKnow(2, 0), 4);
        x.cut(0, 2);
        Check.same("as deliverAll does", x.deliverAll(0, 2), 4);
        for (int writer : NO_WRITERS) {
            Check.noWriter(x, "wouldKnow of " + writer, () -> x.wouldKnow(writer, 0));
            Check.noWriter(x, "wouldKnow from " + writer, () -> x.wouldKnow(0, writer));
            Check.noWriter(x, "wouldKnow twice", () -> x.wouldKnow(writer, writer));
        }
        Check.wrongArgument(x, "wouldKnow from oneself", () -> x.wouldKnow(1, 1));
    }

    private static void promise50Flaws() {
        SharedPalimpsest x = three();
        Check.same("flaws() of a new one", new SharedPalimpsest().flaws(), 0);
        x.type(0, 0, 0, 1);
        x.type(0, 0, 0, 1);
        x.deliver(0, 1, 1);
        x.undo(0);
        x.erase(1, 0, 3);
        Check.same("flaws() with one WAITING", x.flaws(), 0);
        x.leave(0);
        x.join(1);
        Check.same("flaws() when one left", x.flaws(), 0);
    }

    private static void promise51Digest() {
        long d = 58011;
        for (long number : new long[] {1, 0, 1, 0, 0, 0, 0, 0, 0, 0, -1, 0, 0, 0, 0}) {
            d = d * 31 + number;
        }
        Check.same("digest() of a new one", new SharedPalimpsest().digest(), d);
        SharedPalimpsest x = new SharedPalimpsest();
        x.join(0);
        x.type(0, 0, 25, 3);
        x.mark(0, 1, 2, 1, true);
        x.erase(0, 0, 1);
        x.undo(0);
        x.cut(0, 1);
        x.type(1, 0, 9, 1);
        d = 58011;
        for (long number : new long[] {
            2, 5, 0,
            0, 4, 4, 0, 0, 2, 1, 0, -1, -1, 3, 4, 2, 3, 25, 26, 0, 0, 2, 2, 4, 1, 4,
            1, 1, 0, 1, 0, 1, 0, 1, -1, -1, 1, 4, 1, 1, 41, 0, 1, 1, 1,
        }) {
            d = d * 31 + number;
        }
        Check.same("digest() of two writers", x.digest(), d);
        Check.same("digest() changes nothing", x.digest(), d);
    }

    /** The same number once more, put together from the calls that the promise names. */
    private static void promise51DigestByTheCalls() {
        SharedPalimpsest x = three();
        x.join(1);
        x.type(1, 6, 26, 3);
        x.type(2, 0, 13, 4);
        x.mark(1, 1, 6, 2, true);
        x.mark(2, 3, 4, 1, true);
        x.erase(2, 1, 4);
        x.cut(2, 0);
        x.deliver(1, 0, 1);
        x.deliver(1, 3, 0);
        x.undo(2);
        x.leave(0);
        x.catchUp(2, 1);
        Check.same("digest() of three that are PRESENT", x.digest(), digestOf(x));
        x.undo(1);
        x.deliverAll(1, 2);
        x.redo(2);
        x.typeAtCaret(3, 4, 2);
        Check.same("digest() behind more", x.digest(), digestOf(x));
    }

    private static long digestOf(SharedPalimpsest x) {
        long d = 58011;
        d = d * 31 + x.writers();
        d = d * 31 + x.deeds();
        d = d * 31 + (x.agree() ? 1 : 0);
        for (int w = 0; w < x.writers(); w++) {
            if (x.isPresent(w)) {
                d = addOthers(x, w, addText(x, w, addWriter(x, w, d)));
            }
        }
        return d;
    }

    private static long addWriter(SharedPalimpsest x, int w, long start) {
        long d = start * 31 + w;
        d = d * 31 + x.known(w);
        for (int a = 0; a < x.writers(); a++) {
            d = d * 31 + x.knownOf(w, a);
        }
        d = d * 31 + x.waiting(w);
        d = d * 31 + x.undoable(w);
        d = d * 31 + x.redoable(w);
        d = d * 31 + x.caret(w);
        for (int o = 0; o < x.writers(); o++) {
            d = d * 31 + x.caretSeen(w, o);
        }
        return d;
    }

    private static long addText(SharedPalimpsest x, int w, long start) {
        long d = start * 31 + x.length(w);
        d = d * 31 + x.lengthOfAll(w);
        d = d * 31 + x.words(w);
        d = d * 31 + x.cellsOf(w);
        for (int place = 0; place < x.cellsOf(w); place++) {
            d = d * 31 + x.cellAt(w, place);
        }
        for (int position = 0; position < x.length(w); position++) {
            d = d * 31 + x.marksAt(w, position);
        }
        return d;
    }

    private static long addOthers(SharedPalimpsest x, int w, long start) {
        long d = start;
        for (int o = 0; o < x.writers(); o++) {
            if (o != w && x.isPresent(o)) {
                d = d * 31 + x.inChannel(w, o);
                d = d * 31 + (x.areCut(w, o) ? 1 : 0);
                d = d * 31 + x.missing(w, o);
            }
        }
        return d;
    }
}
