/**
 * "if there is no such writer", for each call that names one, and "If several exceptions apply, the
 * one that is named first is thrown", for each call that names several.
 */
public final class RefusedTest {
    private static final int GREATEST = Integer.MAX_VALUE;
    private static final int LEAST = Integer.MIN_VALUE;
    /** In the objects of this test: writer 2 left, 4 and 5 did not come. */
    private static final int[] NOT_PRESENT = {2, -1, 4, 5, 6, 7, GREATEST, LEAST, 1 << 16};
    private static final int[] DID_NOT_COME = {-1, 4, 5, 6, 7, GREATEST, LEAST, 1 << 16};

    /** A call, its first writer (or the only one) and its second one or author. */
    private interface PairCall {
        long run(SharedPalimpsest x, int one, int other);
    }

    /** Each call with one writer alone: with right arguments, and with wrong ones. */
    private static final Check.NumberCall[] OF_ONE = {
        (x, w) -> x.type(w, 0, 0, 1), (x, w) -> x.type(w, -1, 27, 7),
        (x, w) -> x.typeAtCaret(w, 0, 1), (x, w) -> x.typeAtCaret(w, -1, 0),
        (x, w) -> x.erase(w, 0, 1), (x, w) -> x.erase(w, -1, 13),
        (x, w) -> x.mark(w, 0, 1, 0, true), (x, w) -> x.mark(w, -1, 13, 3, true),
        (x, w) -> x.undo(w), (x, w) -> x.redo(w),
        (x, w) -> x.moveCaret(w, 0), (x, w) -> x.moveCaret(w, -1),
        (x, w) -> x.join(w), (x, w) -> x.leave(w), (x, w) -> x.known(w), (x, w) -> x.waiting(w),
        (x, w) -> x.undoable(w), (x, w) -> x.redoable(w), (x, w) -> x.caret(w),
        (x, w) -> x.length(w), (x, w) -> x.cellsOf(w), (x, w) -> x.words(w),
        (x, w) -> x.letterAt(w, 0), (x, w) -> x.letterAt(w, -1),
        (x, w) -> x.authorAt(w, 0), (x, w) -> x.authorAt(w, -1),
        (x, w) -> x.stampAt(w, 0), (x, w) -> x.stampAt(w, -1),
        (x, w) -> x.marksAt(w, 0), (x, w) -> x.marksAt(w, -1),
        (x, w) -> x.cellAt(w, 0), (x, w) -> x.cellAt(w, -1),
        (x, w) -> x.lengthIn(w, 0), (x, w) -> x.lengthIn(w, -1),
        (x, w) -> x.letterIn(w, 1, 0), (x, w) -> x.letterIn(w, -1, -1),
        (x, w) -> x.find(w, 0, 0), (x, w) -> x.find(w, 27, -1),
        (x, w) -> x.lengthOfAll(w), (x, w) -> x.lengthUndone(w),
    };

    /** Each call with two writers: with right arguments, and with wrong ones. */
    private static final PairCall[] OF_TWO = {
        (x, a, b) -> x.deliver(a, b, 0), (x, a, b) -> x.deliver(a, b, -1),
        (x, a, b) -> x.deliverAll(a, b), (x, a, b) -> x.catchUp(a, b),
        (x, a, b) -> x.lose(a, b, 0), (x, a, b) -> x.lose(a, b, -1),
        (x, a, b) -> x.repeat(a, b, 0), (x, a, b) -> x.repeat(a, b, -1),
        (x, a, b) -> x.cut(a, b) ? 1 : 0, (x, a, b) -> x.areCut(a, b) ? 1 : 0,
        (x, a, b) -> x.inChannel(a, b), (x, a, b) -> x.missing(a, b), (x, a, b) -> x.apart(a, b),
        (x, a, b) -> x.areAlike(a, b) ? 1 : 0, (x, a, b) -> x.wouldKnow(a, b),
    };

    /** Each call with a writer, and with an author or another one that may have left. */
    private static final PairCall[] OF_ONE_AND_AUTHOR = {
        (x, w, a) -> x.knownOf(w, a), (x, w, a) -> x.caretSeen(w, a),
        (x, w, a) -> x.longestBy(w, a), (x, w, a) -> (long) x.shareOf(w, a),
    };

    public static void main(String[] arguments) {
        for (SharedPalimpsest x : new SharedPalimpsest[] {ordinary(), full()}) {
            noSuchWriter(x);
            noSuchOther(x);
            noSuchAuthor(x);
        }
        argumentAheadOfState();
        sameAheadOfState();
        Check.end("RefusedTest");
    }

    /** Writers 0, 1 and 3 are PRESENT; 2 did a deed, which all know, and left. */
    private static SharedPalimpsest ordinary() {
        SharedPalimpsest x = new SharedPalimpsest();
        x.join(0);
        x.join(0);
        x.type(2, 0, 0, 6);
        x.catchUp(2, 0);
        x.catchUp(2, 1);
        x.leave(2);
        x.join(0);
        x.type(0, 0, 0, 6);
        x.type(1, 0, 0, 6);
        return x;
    }

    /** The same with 120 deeds, a channel with 150, and all CUT OFF from one another. */
    private static SharedPalimpsest full() {
        SharedPalimpsest x = ordinary();
        while (x.deeds() < 120) {
            x.mark(0, 0, 1, 0, true);
        }
        while (x.inChannel(0, 1) < 150) {
            x.repeat(0, 1, 0);
        }
        x.cut(0, 1);
        x.cut(0, 3);
        x.cut(1, 3);
        return x;
    }

    private static void noSuchWriter(SharedPalimpsest x) {
        for (int i = 0; i < OF_ONE.length; i++) {
            Check.NumberCall call = OF_ONE[i];
            for (int writer : NOT_PRESENT) {
                Check.noWriter(x, "call " + i + " of " + writer, () -> call.run(x, writer));
            }
        }
    }

    private static void noSuchOther(SharedPalimpsest x) {
        for (int i = 0; i < OF_TWO.length; i++) {
            PairCall call = OF_TWO[i];
            for (int writer : NOT_PRESENT) {
                String what = "call with two, " + i + ", " + writer;
                Check.noWriter(x, what + " first", () -> call.run(x, writer, 1));
                Check.noWriter(x, what + " second", () -> call.run(x, 0, writer));
                Check.noWriter(x, what + " both", () -> call.run(x, writer, writer));
                Check.noWriter(x, what + " and 2", () -> call.run(x, writer, 2));
            }
        }
    }

    private static void noSuchAuthor(SharedPalimpsest x) {
        for (int i = 0; i < OF_ONE_AND_AUTHOR.length; i++) {
            PairCall call = OF_ONE_AND_AUTHOR[i];
            for (int writer : NOT_PRESENT) {
                String what = "call with an author, " + i + ", by " + writer;
                Check.noWriter(x, what, () -> call.run(x, writer, 0));
                Check.noWriter(x, what + " twice", () -> call.run(x, writer, writer));
            }
            for (int author : DID_NOT_COME) {
                Check.noWriter(x, "author " + author, () -> call.run(x, 0, author));
            }
            for (int author = 0; author < 4; author++) {
                Check.taken("author " + author, x, (y, n) -> call.run(y, 0, n), author);
            }
        }
        for (int author : DID_NOT_COME) {
            Check.noWriter(x, "deedsOf(" + author + ")", () -> x.deedsOf(author));
        }
        Check.same("deedsOf one that left", x.deedsOf(2), 1);
    }

    /** The wrong argument is named ahead of what cannot be done now. */
    private static void argumentAheadOfState() {
        SharedPalimpsest x = full();
        Check.wrongState(x, "type", () -> x.type(0, 0, 0, 1));
        Check.wrongArgument(x, "type, position", () -> x.type(0, 13, 0, 1));
        Check.wrongArgument(x, "type, letter", () -> x.type(0, 0, 27, 1));
        Check.wrongArgument(x, "type, many", () -> x.type(0, 0, 0, 7));
        Check.wrongState(x, "typeAtCaret", () -> x.typeAtCaret(0, 0, 1));
        Check.wrongArgument(x, "typeAtCaret, letter", () -> x.typeAtCaret(0, -1, 1));
        Check.wrongArgument(x, "typeAtCaret, many", () -> x.typeAtCaret(0, 0, 0));
        Check.wrongState(x, "erase", () -> x.erase(0, 0, 12));
        Check.wrongArgument(x, "erase, many", () -> x.erase(0, 0, 13));
        Check.wrongArgument(x, "erase, position", () -> x.erase(0, 1, 12));
        Check.wrongState(x, "mark", () -> x.mark(0, 0, 12, 0, true));
        Check.wrongArgument(x, "mark, many", () -> x.mark(0, 0, 0, 0, true));
        Check.wrongArgument(x, "mark, position", () -> x.mark(0, 1, 12, 0, true));
        Check.wrongArgument(x, "mark, kind", () -> x.mark(0, 0, 1, -1, true));
        Check.wrongState(x, "deliver", () -> x.deliver(0, 1, 149));
        Check.wrongArgument(x, "deliver, place", () -> x.deliver(0, 1, 150));
        Check.wrongState(x, "repeat", () -> x.repeat(0, 1, 149));
        Check.wrongArgument(x, "repeat, place", () -> x.repeat(0, 1, 150));
        Check.wrongState(x, "undo, 120 deeds", () -> x.undo(0));
        Check.wrongState(x, "undo, DONE is empty, too", () -> x.undo(3));
        Check.wrongState(x, "redo, UNDONE is empty, too", () -> x.redo(0));
    }

    /** Both the same is named ahead of CUT OFF, and behind no such writer. */
    private static void sameAheadOfState() {
        SharedPalimpsest x = full();
        for (int writer : new int[] {0, 1, 3}) {
            Check.wrongArgument(x, "deliver", () -> x.deliver(writer, writer, 0));
            Check.wrongArgument(x, "deliverAll", () -> x.deliverAll(writer, writer));
            Check.wrongArgument(x, "lose", () -> x.lose(writer, writer, 0));
            Check.wrongArgument(x, "repeat", () -> x.repeat(writer, writer, 0));
            Check.wrongArgument(x, "catchUp", () -> x.catchUp(writer, writer));
            Check.wrongArgument(x, "cut", () -> x.cut(writer, writer) ? 1 : 0);
            Check.wrongArgument(x, "areCut", () -> x.areCut(writer, writer) ? 1 : 0);
            Check.wrongArgument(x, "inChannel", () -> x.inChannel(writer, writer));
            Check.wrongArgument(x, "wouldKnow", () -> x.wouldKnow(writer, writer));
        }
        Check.wrongState(x, "deliverAll", () -> x.deliverAll(0, 1));
        Check.wrongState(x, "catchUp", () -> x.catchUp(1, 3));
        Check.same("missing, of the same", x.missing(3, 3), 0);
        Check.same("apart, of the same", x.apart(3, 3), 0);
        Check.same("areAlike, of the same", x.areAlike(3, 3), true);
    }
}
