/** Promises 17 to 31: what is asked of writers. */
public final class WritersAskedTest {
    private static final int[] NO_WRITERS = {-1, 2, 4, 6, Integer.MAX_VALUE, Integer.MIN_VALUE};
    private static final int[] NOBODY = {-1, 4, 6, Integer.MAX_VALUE, Integer.MIN_VALUE};

    public static void main(String[] arguments) {
        promise17Writers();
        promise18IsPresent();
        promise19Deeds();
        promise20DeedsOf();
        promise21Known();
        promise22KnownOf();
        promise23Waiting();
        promise24InChannel();
        promise25AreCut();
        promise26Missing();
        promise27Agree();
        promise28Undoable();
        promise29Redoable();
        promise30Caret();
        promise30CaretInOrder();
        promise31CaretSeen();
        promise31GreatestNumber();
        Check.end("WritersAskedTest");
    }

    /**
     * Writers 0, 1 and 3 are PRESENT, 2 came and left. Deeds: 0 did "ab" and an ERASE of the b, 1
     * did "kl", 2 did "uv" and knew nothing more; 1 knows "ab" and the ERASE, 0 knows that of 2, 3
     * joined by 1 behind its own.
     */
    private static SharedPalimpsest four() {
        SharedPalimpsest x = new SharedPalimpsest();
        x.join(0);
        x.join(0);
        x.type(0, 0, 0, 2);
        x.erase(0, 1, 1);
        x.type(2, 0, 20, 2);
        x.deliverAll(2, 0);
        x.deliverAll(0, 1);
        x.type(1, 1, 10, 2);
        x.leave(2);
        x.join(1);
        return x;
    }

    private static void promise17Writers() {
        SharedPalimpsest x = new SharedPalimpsest();
        Check.same("writers() at first", x.writers(), 1);
        x.join(0);
        Check.same("writers() behind a join", x.writers(), 2);
        Check.same("writers(), one left", four().writers(), 4);
    }

    private static void promise18IsPresent() {
        SharedPalimpsest x = four();
        boolean[] due = {true, true, false, true, false, false, false};
        for (int writer = 0; writer < due.length; writer++) {
            Check.same("isPresent(" + writer + ")", x.isPresent(writer), due[writer]);
        }
        Check.same("isPresent(-1)", x.isPresent(-1), false);
        Check.same("isPresent of the greatest", x.isPresent(Integer.MAX_VALUE), false);
        Check.same("isPresent of the least", x.isPresent(Integer.MIN_VALUE), false);
    }

    private static void promise19Deeds() {
        SharedPalimpsest x = four();
        Check.same("deeds()", x.deeds(), 4);
        x.moveCaret(0, 1);
        x.catchUp(1, 0);
        Check.same("deeds() when none is done", x.deeds(), 4);
        x.undo(0);
        x.redo(0);
        x.mark(0, 0, 1, 1, false);
        Check.same("UNDO, REDO and MARK are deeds", x.deeds(), 7);
        x.leave(0);
        Check.same("deeds() of one that left", x.deeds(), 7);
    }

    private static void promise20DeedsOf() {
        SharedPalimpsest x = four();
        int[] due = {2, 1, 1, 0};
        for (int author = 0; author < due.length; author++) {
            Check.same("deedsOf(" + author + ")", x.deedsOf(author), due[author]);
        }
        x.undo(0);
        Check.same("an UNDO counts", x.deedsOf(0), 3);
        for (int author : NOBODY) {
            Check.noWriter(x, "deedsOf(" + author + ")", () -> x.deedsOf(author));
        }
    }

    private static void promise21Known() {
        SharedPalimpsest x = four();
        Check.same("known(0)", x.known(0), 3);
        Check.same("known(1)", x.known(1), 3);
        Check.same("known(3)", x.known(3), 3);
        x.catchUp(0, 3);
        Check.same("known(3) of all", x.known(3), 4);
        for (int writer : NO_WRITERS) {
            Check.noWriter(x, "known(" + writer + ")", () -> x.known(writer));
        }
    }

    private static void promise22KnownOf() {
        SharedPalimpsest x = four();
        int[] ofZero = {2, 0, 1, 0};
        int[] ofThree = {2, 1, 0, 0};
        for (int author = 0; author < 4; author++) {
            Check.same("knownOf(0, " + author + ")", x.knownOf(0, author), ofZero[author]);
            Check.same("knownOf(3, " + author + ")", x.knownOf(3, author), ofThree[author]);
        }
        for (int writer : NO_WRITERS) {
            Check.noWriter(x, "knownOf(" + writer + ", 0)", () -> x.knownOf(writer, 0));
        }
        for (int author : NOBODY) {
            Check.noWriter(x, "knownOf(0, " + author + ")", () -> x.knownOf(0, author));
        }
    }

    private static void promise23Waiting() {
        SharedPalimpsest x = four();
        Check.same("waiting at first", x.waiting(3), 0);
        x.type(0, 0, 0, 1);
        x.type(0, 0, 0, 1);
        x.deliver(0, 3, 1);
        Check.same("it waits for one, and for that of 2", x.waiting(3), 1);
        x.deliver(0, 3, 0);
        Check.same("both wait for that of 2", x.waiting(3), 2);
        Check.same("waiting elsewhere", x.waiting(1), 0);
        x.catchUp(0, 3);
        Check.same("nothing waits behind all", x.waiting(3), 0);
        for (int writer : NO_WRITERS) {
            Check.noWriter(x, "waiting(" + writer + ")", () -> x.waiting(writer));
        }
    }

    private static void promise24InChannel() {
        SharedPalimpsest x = four();
        Check.same("inChannel(1, 0)", x.inChannel(1, 0), 1);
        Check.same("inChannel(0, 1)", x.inChannel(0, 1), 0);
        Check.same("inChannel(1, 3), as 3 came later", x.inChannel(1, 3), 0);
        x.mark(1, 0, 1, 0, true);
        x.undo(1);
        x.redo(1);
        Check.same("each deed goes to 0", x.inChannel(1, 0), 4);
        Check.same("and to 3", x.inChannel(1, 3), 3);
        x.moveCaret(1, 0);
        Check.same("moveCaret is none", x.inChannel(1, 3), 3);
        x.deliverAll(1, 0);
        Check.same("what was delivered is not sent on", x.inChannel(0, 3), 0);
        for (int writer : NO_WRITERS) {
            Check.noWriter(x, "inChannel(" + writer + ", 0)", () -> x.inChannel(writer, 0));
            Check.noWriter(x, "inChannel(0, " + writer + ")", () -> x.inChannel(0, writer));
            Check.noWriter(x, "inChannel twice", () -> x.inChannel(writer, writer));
        }
        Check.wrongArgument(x, "inChannel(1, 1)", () -> x.inChannel(1, 1));
    }

    private static void promise25AreCut() {
        SharedPalimpsest x = four();
        Check.same("not at first", x.areCut(0, 3), false);
        x.cut(3, 0);
        Check.same("CUT OFF", x.areCut(0, 3), true);
        Check.same("both ways", x.areCut(3, 0), true);
        Check.same("not the others", x.areCut(1, 3), false);
        for (int writer : NO_WRITERS) {
            Check.noWriter(x, "areCut(" + writer + ", 0)", () -> x.areCut(writer, 0) ? 1 : 0);
            Check.noWriter(x, "areCut(0, " + writer + ")", () -> x.areCut(0, writer) ? 1 : 0);
        }
        Check.wrongArgument(x, "areCut(3, 3)", () -> x.areCut(3, 3) ? 1 : 0);
    }

    private static void promise26Missing() {
        SharedPalimpsest x = four();
        Check.same("missing(0, 1)", x.missing(0, 1), 1);
        Check.same("missing(1, 0)", x.missing(1, 0), 1);
        Check.same("missing(1, 3)", x.missing(1, 3), 0);
        Check.same("missing(1, 1)", x.missing(1, 1), 0);
        x.type(1, 0, 0, 1);
        x.type(1, 0, 0, 1);
        Check.same("missing(1, 3) of two", x.missing(1, 3), 2);
        Check.same("missing(3, 1) of two", x.missing(3, 1), 0);
        x.deliver(1, 3, 1);
        Check.same("one that is WAITING is not known", x.missing(1, 3), 2);
        for (int writer : NO_WRITERS) {
            Check.noWriter(x, "missing(" + writer + ", 0)", () -> x.missing(writer, 0));
            Check.noWriter(x, "missing(0, " + writer + ")", () -> x.missing(0, writer));
        }
    }

    private static void promise27Agree() {
        SharedPalimpsest x = new SharedPalimpsest();
        Check.same("agree() of one", x.agree(), true);
        x.type(0, 0, 0, 1);
        x.join(0);
        Check.same("agree() of two", x.agree(), true);
        x.type(0, 0, 0, 1);
        Check.same("one knows more", x.agree(), false);
        x.type(1, 0, 0, 1);
        Check.same("each knows as many, but others", x.agree(), false);
        x.catchUp(0, 1);
        x.catchUp(1, 0);
        Check.same("agree() in another order", x.agree(), true);
        x.join(0);
        x.type(2, 0, 0, 1);
        Check.same("the last one knows more", x.agree(), false);
        x.leave(2);
        Check.same("those that left do not count", x.agree(), true);
    }

    private static void promise28Undoable() {
        SharedPalimpsest x = four();
        Check.same("undoable(0)", x.undoable(0), 2);
        Check.same("undoable(3), which joined", x.undoable(3), 0);
        x.undo(0);
        Check.same("behind an UNDO", x.undoable(0), 1);
        x.redo(0);
        Check.same("behind a REDO", x.undoable(0), 2);
        for (int i = 0; i < 8; i++) {
            x.mark(0, 0, 1, 0, true);
        }
        Check.same("8 at the most", x.undoable(0), 8);
        for (int writer : NO_WRITERS) {
            Check.noWriter(x, "undoable(" + writer + ")", () -> x.undoable(writer));
        }
    }

    private static void promise29Redoable() {
        SharedPalimpsest x = four();
        Check.same("redoable(0)", x.redoable(0), 0);
        x.undo(0);
        x.undo(0);
        Check.same("behind two UNDOs", x.redoable(0), 2);
        Check.same("of its own alone", x.redoable(1), 0);
        x.redo(0);
        Check.same("behind a REDO", x.redoable(0), 1);
        x.deliverAll(1, 0);
        Check.same("what comes leaves it", x.redoable(0), 1);
        x.type(0, 0, 0, 1);
        Check.same("empty behind a TYPE", x.redoable(0), 0);
        for (int writer : NO_WRITERS) {
            Check.noWriter(x, "redoable(" + writer + ")", () -> x.redoable(writer));
        }
    }

    private static void promise30Caret() {
        SharedPalimpsest x = four();
        Check.sameText("uv came ahead of its a", x, 0, "uva");
        Check.same("behind an ERASE", x.caret(0), 3);
        Check.same("behind a TYPE", x.caret(1), 3);
        Check.same("of one that joined", x.caret(3), 0);
        x.undo(1);
        Check.same("behind an UNDO of it", x.caret(1), 1);
        x.type(1, 0, 5, 3);
        x.moveCaret(1, 4);
        x.mark(1, 0, 1, 0, true);
        Check.same("a MARK leaves it", x.caret(1), 4);
        for (int writer : NO_WRITERS) {
            Check.noWriter(x, "caret(" + writer + ")", () -> x.caret(writer));
        }
    }

    /** Where "uv" stands by the same STAMP, and that the caret counts what comes ahead of it. */
    private static void promise30CaretInOrder() {
        SharedPalimpsest x = new SharedPalimpsest();
        x.join(0);
        x.type(0, 0, 0, 3);
        x.type(1, 0, 20, 2);
        x.deliverAll(1, 0);
        Check.sameText("the greater author ahead", x, 0, "uvabc");
        Check.same("the caret goes along", x.caret(0), 5);
        x.moveCaret(0, 1);
        x.type(1, 1, 5, 1);
        x.deliverAll(1, 0);
        Check.sameText("behind the caret's cell", x, 0, "ufvabc");
        Check.same("the caret stays", x.caret(0), 1);
        x.moveCaret(0, 0);
        x.type(1, 0, 6, 1);
        x.deliverAll(1, 0);
        Check.same("at the BEGINNING it stays 0", x.caret(0), 0);
    }

    private static void promise31CaretSeen() {
        SharedPalimpsest x = four();
        Check.same("of oneself", x.caretSeen(0, 0), -1);
        Check.same("of one without a known deed", x.caretSeen(0, 1), -1);
        Check.same("of one that left", x.caretSeen(0, 2), 2);
        Check.same("of one that did none", x.caretSeen(1, 3), -1);
        Check.same("of one that left, unknown", x.caretSeen(1, 2), -1);
        x.moveCaret(1, 2);
        Check.same("it comes with a deed alone", x.caretSeen(3, 1), 3);
        x.mark(1, 0, 1, 0, true);
        Check.same("not yet", x.caretSeen(3, 1), 3);
        x.deliverAll(1, 3);
        Check.same("the MARK brings it", x.caretSeen(3, 1), 2);
        x.type(3, 0, 5, 4);
        Check.same("in the own text", x.caretSeen(3, 1), 6);
        x.erase(3, 5, 1);
        Check.same("behind a hidden cell", x.caretSeen(3, 1), 5);
        x.erase(1, 0, 1);
        x.deliverAll(1, 3);
        Check.same("at the BEGINNING", x.caretSeen(3, 1), 0);
        for (int writer : NO_WRITERS) {
            Check.noWriter(x, "caretSeen(" + writer + ", 0)", () -> x.caretSeen(writer, 0));
        }
        for (int other : NOBODY) {
            Check.noWriter(x, "caretSeen(0, " + other + ")", () -> x.caretSeen(0, other));
        }
    }

    /** The deed with the greatest NUMBER of the other one, whatever was known since. */
    private static void promise31GreatestNumber() {
        SharedPalimpsest x = new SharedPalimpsest();
        x.join(0);
        x.type(0, 0, 0, 3);
        x.deliverAll(0, 1);
        x.type(1, 0, 9, 2);
        x.type(1, 0, 9, 2);
        Check.same("the first deed that is known", x.caretSeen(1, 0), 7);
        x.moveCaret(0, 1);
        x.type(0, 1, 1, 1);
        x.erase(0, 1, 1);
        x.deliverAll(0, 1);
        x.type(1, 0, 9, 1);
        Check.same("the last one that is known", x.caretSeen(1, 0), 6);
        x.deliver(1, 0, 0);
        Check.same("one of two", x.caretSeen(0, 1), 2);
    }
}
