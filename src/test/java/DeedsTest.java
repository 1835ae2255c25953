/** Promises 1 to 8: a new object, and the deeds. */
public final class DeedsTest {
    private static final int[] NO_WRITERS = {-1, 1, 6, 7, Integer.MAX_VALUE, Integer.MIN_VALUE};

    public static void main(String[] arguments) {
        promise1NewObject();
        promise2Type();
        promise2Order();
        promise2Refused();
        promise3TypeAtCaret();
        promise3Refused();
        promise4Erase();
        promise4Refused();
        promise5Mark();
        promise5GreatestStamp();
        promise5StampNotTime();
        promise5Refused();
        promise6Undo();
        promise6EightAtMost();
        promise6Refused();
        promise7Redo();
        promise7Refused();
        promise8MoveCaret();
        promise8Refused();
        Check.end("DeedsTest");
    }

    /** An object with the text "abcdef" by writer 0, which did one deed. */
    private static SharedPalimpsest abcdef() {
        SharedPalimpsest x = new SharedPalimpsest();
        x.type(0, 0, 0, 6);
        return x;
    }

    /** Does deeds that change no text, till there are 120. */
    private static void fillUp(SharedPalimpsest x) {
        int at = x.caret(0);
        if (x.length(0) == 0) {
            x.type(0, 0, 0, 1);
        }
        while (x.deeds() < 120) {
            x.mark(0, 0, 1, 0, true);
        }
        x.moveCaret(0, Math.min(at, x.length(0)));
    }

    private static void promise1NewObject() {
        SharedPalimpsest x = new SharedPalimpsest();
        Check.same("writers() of a new one", x.writers(), 1);
        Check.same("isPresent(0) of a new one", x.isPresent(0), true);
        Check.same("isPresent(1) of a new one", x.isPresent(1), false);
        Check.same("length(0) of a new one", x.length(0), 0);
        Check.same("cellsOf(0) of a new one", x.cellsOf(0), 0);
        Check.same("deeds() of a new one", x.deeds(), 0);
        Check.same("known(0) of a new one", x.known(0), 0);
        Check.same("caret(0) of a new one", x.caret(0), 0);
        Check.same("undoable(0) of a new one", x.undoable(0), 0);
        Check.same("redoable(0) of a new one", x.redoable(0), 0);
        SharedPalimpsest other = new SharedPalimpsest();
        x.type(0, 0, 0, 1);
        Check.same("another object stays as it is", other.length(0), 0);
    }

    private static void promise2Type() {
        SharedPalimpsest x = new SharedPalimpsest();
        Check.same("type at the BEGINNING", x.type(0, 0, 7, 2), 2);
        Check.sameText("type at the BEGINNING", x, 0, "hi");
        Check.same("type at the end", x.type(0, 2, 24, 6), 8);
        Check.sameText("behind 26 comes 0", x, 0, "hiyz abc");
        Check.same("type in the midst", x.type(0, 1, 26, 1), 9);
        Check.sameText("type in the midst", x, 0, "h iyz abc");
        Check.same("type at the BEGINNING again", x.type(0, 0, 0, 6), 15);
        Check.sameText("type at the BEGINNING again", x, 0, "abcdefh iyz abc");
        Check.same("deeds behind four", x.deeds(), 4);
        Check.same("stamp of the last one", x.stampAt(0, 0), 4);
        Check.same("stamp of the first one", x.stampAt(0, 6), 1);
        Check.same("caret behind the last letter", x.caret(0), 6);
        Check.same("DONE has four", x.undoable(0), 4);
    }

    /** Letters of several writers behind the same one, and what hangs on a hidden cell. */
    private static void promise2Order() {
        SharedPalimpsest x = new SharedPalimpsest();
        x.type(0, 0, 0, 2);
        x.join(0);
        x.join(0);
        x.type(1, 1, 10, 2);
        x.type(2, 1, 20, 2);
        x.type(0, 2, 25, 1);
        x.type(0, 1, 15, 1);
        x.deliverAll(1, 0);
        x.deliverAll(2, 0);
        Check.sameText("greatest stamp, then author", x, 0, "apuvklbz");
        x.deliverAll(2, 1);
        x.deliverAll(0, 1);
        Check.sameText("the same order elsewhere", x, 1, "apuvklbz");
        x.erase(1, 3, 1);
        Check.sameText("v hidden", x, 1, "apuklbz");
        x.type(2, 3, 5, 1);
        Check.sameText("f behind v", x, 2, "auvfb");
        x.deliverAll(2, 1);
        Check.sameText("f hangs on the hidden v", x, 1, "apufklbz");
        x.undo(2);
        x.undo(2);
        x.deliverAll(2, 1);
        Check.sameText("all of writer 2 undone", x, 1, "apklbz");
        Check.same("its cells stay", x.cellsOf(1), 9);
    }

    private static void promise2Refused() {
        SharedPalimpsest x = abcdef();
        for (int writer : NO_WRITERS) {
            Check.noWriter(x, "type by " + writer, () -> x.type(writer, 0, 0, 1));
            Check.noWriter(x, "type by " + writer + ", all wrong", () -> x.type(writer, -1, -1, 0));
        }
        for (int position : new int[] {-1, 7, Integer.MAX_VALUE, Integer.MIN_VALUE}) {
            Check.wrongArgument(x, "type at " + position, () -> x.type(0, position, 0, 1));
        }
        for (int letter : new int[] {-1, 27, Integer.MAX_VALUE, Integer.MIN_VALUE}) {
            Check.wrongArgument(x, "type of " + letter, () -> x.type(0, 0, letter, 1));
        }
        for (int many : new int[] {-1, 0, 7, Integer.MAX_VALUE, Integer.MIN_VALUE}) {
            Check.wrongArgument(x, "type of many " + many, () -> x.type(0, 0, 0, many));
        }
        fillUp(x);
        Check.wrongState(x, "type behind 120 deeds", () -> x.type(0, 0, 0, 1));
        Check.wrongArgument(x, "wrong letter behind 120 deeds", () -> x.type(0, 0, 27, 1));
        Check.noWriter(x, "no writer behind 120 deeds", () -> x.type(1, 0, 0, 1));
    }

    private static void promise3TypeAtCaret() {
        SharedPalimpsest x = new SharedPalimpsest();
        Check.same("typeAtCaret at the BEGINNING", x.typeAtCaret(0, 0, 3), 3);
        Check.same("typeAtCaret goes on", x.typeAtCaret(0, 3, 2), 5);
        Check.sameText("typeAtCaret goes on", x, 0, "abcde");
        x.moveCaret(0, 2);
        Check.same("typeAtCaret behind a moved caret", x.typeAtCaret(0, 25, 2), 4);
        Check.sameText("typeAtCaret behind a moved caret", x, 0, "abz cde");
        x.undo(0);
        Check.same("the caret stays behind what is undone", x.caret(0), 2);
        Check.same("typeAtCaret behind a hidden cell", x.typeAtCaret(0, 9, 1), 3);
        Check.sameText("typeAtCaret behind a hidden cell", x, 0, "abjcde");
        int[] cells = {0, 1, -26, -27, 9, 2, 3, 4};
        for (int place = 0; place < cells.length; place++) {
            Check.same("it hangs on the hidden cell, " + place, x.cellAt(0, place), cells[place]);
        }
        Check.same("DONE has it, UNDONE is empty", x.undoable(0) * 10 + x.redoable(0), 30);
    }

    private static void promise3Refused() {
        SharedPalimpsest x = abcdef();
        for (int writer : NO_WRITERS) {
            Check.noWriter(x, "typeAtCaret by " + writer, () -> x.typeAtCaret(writer, -1, 1));
        }
        for (int letter : new int[] {-1, 27, Integer.MAX_VALUE, Integer.MIN_VALUE}) {
            Check.wrongArgument(x, "typeAtCaret of " + letter, () -> x.typeAtCaret(0, letter, 1));
        }
        for (int many : new int[] {-1, 0, 7, Integer.MAX_VALUE, Integer.MIN_VALUE}) {
            Check.wrongArgument(x, "typeAtCaret of many " + many, () -> x.typeAtCaret(0, 0, many));
        }
        fillUp(x);
        Check.wrongState(x, "typeAtCaret behind 120 deeds", () -> x.typeAtCaret(0, 26, 6));
        Check.wrongArgument(x, "many 7 behind 120 deeds", () -> x.typeAtCaret(0, 0, 7));
    }

    private static void promise4Erase() {
        SharedPalimpsest x = abcdef();
        Check.same("erase in the midst", x.erase(0, 2, 3), 3);
        Check.sameText("erase in the midst", x, 0, "abf");
        Check.same("the caret is behind the cell ahead", x.caret(0), 2);
        Check.same("the cells stay", x.cellsOf(0), 6);
        x.typeAtCaret(0, 25, 1);
        Check.sameText("typed behind the cell ahead", x, 0, "abzf");
        Check.same("erase from the first one", x.erase(0, 0, 2), 2);
        Check.same("the caret is at the BEGINNING", x.caret(0), 0);
        Check.same("erase of all", x.erase(0, 0, 2), 0);
        Check.sameText("erase of all", x, 0, "");
        x.typeAtCaret(0, 12, 1);
        Check.same("at the BEGINNING ahead of all cells", x.cellAt(0, 0), 12);
        SharedPalimpsest y = abcdef();
        y.type(0, 6, 6, 6);
        y.type(0, 12, 12, 1);
        Check.same("erase of 12", y.erase(0, 1, 12), 1);
        Check.sameText("erase of 12", y, 0, "a");
        y.undo(0);
        y.join(0);
        y.erase(0, 3, 1);
        y.erase(1, 3, 1);
        y.deliverAll(1, 0);
        Check.same("erased twice", y.length(0), 12);
        y.undo(0);
        Check.same("one of both undone", y.length(0), 12);
    }

    private static void promise4Refused() {
        SharedPalimpsest x = abcdef();
        for (int writer : NO_WRITERS) {
            Check.noWriter(x, "erase by " + writer, () -> x.erase(writer, 0, 0));
        }
        for (int many : new int[] {-1, 0, 7, 13, Integer.MAX_VALUE, Integer.MIN_VALUE}) {
            Check.wrongArgument(x, "erase of " + many, () -> x.erase(0, 0, many));
        }
        for (int position : new int[] {-1, 5, 6, Integer.MAX_VALUE, Integer.MIN_VALUE}) {
            Check.wrongArgument(x, "erase at " + position, () -> x.erase(0, position, 2));
        }
        Check.wrongArgument(x, "erase that would wrap", () -> x.erase(0, Integer.MAX_VALUE, 12));
        Check.wrongArgument(x, "erase ahead of the first", () -> x.erase(0, -1, 3));
        SharedPalimpsest y = abcdef();
        y.type(0, 0, 0, 6);
        y.type(0, 0, 0, 6);
        Check.wrongArgument(y, "erase of 13 of 18", () -> y.erase(0, 0, 13));
        fillUp(x);
        Check.wrongState(x, "erase behind 120 deeds", () -> x.erase(0, 0, 6));
        Check.wrongArgument(x, "erase of 7 of 6 behind 120", () -> x.erase(0, 0, 7));
        SharedPalimpsest z = new SharedPalimpsest();
        Check.wrongArgument(z, "erase of an empty text", () -> z.erase(0, 0, 1));
    }

    private static void promise5Mark() {
        SharedPalimpsest x = abcdef();
        Check.same("mark with on", x.mark(0, 1, 3, 0, true), 3);
        Check.same("another kind", x.mark(0, 3, 3, 2, true), 3);
        Check.same("marks of none", x.marksAt(0, 0), 0);
        Check.same("marks of one kind", x.marksAt(0, 2), 1);
        Check.same("marks of two kinds", x.marksAt(0, 3), 5);
        Check.same("marks of the last kind", x.marksAt(0, 5), 4);
        Check.same("mark with off", x.mark(0, 0, 2, 0, false), 2);
        Check.same("taken off", x.marksAt(0, 1), 0);
        Check.same("on once more, and further", x.mark(0, 0, 6, 0, true), 6);
        x.undo(0);
        Check.same("the earlier one counts again", x.marksAt(0, 1), 0);
        Check.same("and of those marked", x.marksAt(0, 2), 1);
        x.moveCaret(0, 4);
        x.mark(0, 0, 1, 1, true);
        Check.same("a MARK leaves the caret", x.caret(0), 4);
        Check.same("a MARK is DONE", x.undoable(0), 5);
        x.erase(0, 2, 1);
        Check.same("a hidden cell does not count", x.mark(0, 0, 1, 0, false), 1);
        x.type(0, 2, 25, 1);
        Check.same("what is typed has no marks", x.marksAt(0, 2), 0);
        Check.same("a MARK stays as it covered", x.mark(0, 3, 1, 1, true), 2);
    }

    private static void promise5GreatestStamp() {
        SharedPalimpsest x = abcdef();
        x.join(0);
        x.join(0);
        x.mark(0, 0, 2, 1, true);
        x.mark(1, 1, 2, 1, false);
        x.mark(2, 2, 2, 1, true);
        x.mark(2, 5, 1, 1, true);
        x.mark(0, 4, 1, 0, true);
        x.mark(0, 5, 1, 1, false);
        x.mark(0, 4, 2, 1, true);
        for (int to = 0; to < 3; to++) {
            for (int from = 0; from < 3; from++) {
                if (from != to) {
                    x.deliverAll(from, to);
                }
            }
        }
        int[] marks = {2, 0, 2, 2, 3, 2};
        for (int position = 0; position < marks.length; position++) {
            for (int writer = 0; writer < 3; writer++) {
                Check.same("mark of the same stamps, " + writer + ", " + position,
                        x.marksAt(writer, position), marks[position]);
            }
        }
        x.undo(1);
        x.deliverAll(1, 0);
        Check.same("the lesser author counts again", x.marksAt(0, 1), 2);
        x.undo(0);
        Check.same("the earlier stamp counts again", x.marksAt(0, 5), 0);
        x.undo(0);
        Check.same("the other author's counts again", x.marksAt(0, 5), 2);
    }

    /** Which MARK counts does not hang on which one was done or came first. */
    private static void promise5StampNotTime() {
        SharedPalimpsest x = abcdef();
        x.join(0);
        x.mark(1, 0, 1, 0, true);
        x.mark(0, 0, 1, 0, false);
        x.mark(1, 1, 1, 0, true);
        x.mark(1, 1, 1, 0, true);
        x.mark(0, 1, 1, 0, false);
        x.deliverAll(0, 1);
        x.deliverAll(1, 0);
        for (int writer = 0; writer < 2; writer++) {
            Check.same("the greater author, done first, " + writer, x.marksAt(writer, 0), 1);
            Check.same("the greater STAMP, done first, " + writer, x.marksAt(writer, 1), 1);
        }
    }

    private static void promise5Refused() {
        SharedPalimpsest x = abcdef();
        for (int writer : NO_WRITERS) {
            Check.noWriter(x, "mark by " + writer, () -> x.mark(writer, -1, 0, 3, true));
        }
        for (int many : new int[] {-1, 0, 7, 13, Integer.MAX_VALUE, Integer.MIN_VALUE}) {
            Check.wrongArgument(x, "mark of " + many, () -> x.mark(0, 0, many, 0, true));
        }
        for (int position : new int[] {-1, 5, 6, Integer.MAX_VALUE, Integer.MIN_VALUE}) {
            Check.wrongArgument(x, "mark at " + position, () -> x.mark(0, position, 2, 0, true));
        }
        for (int kind : new int[] {-1, 3, Integer.MAX_VALUE, Integer.MIN_VALUE}) {
            Check.wrongArgument(x, "mark of kind " + kind, () -> x.mark(0, 0, 1, kind, false));
        }
        fillUp(x);
        Check.wrongState(x, "mark behind 120 deeds", () -> x.mark(0, 0, 6, 2, true));
        Check.wrongArgument(x, "kind 3 behind 120 deeds", () -> x.mark(0, 0, 6, 3, true));
    }

    private static void promise6Undo() {
        SharedPalimpsest x = abcdef();
        x.erase(0, 4, 2);
        x.type(0, 4, 25, 1);
        x.mark(0, 0, 5, 0, true);
        Check.same("undo of a MARK", x.undo(0), 5);
        Check.same("its mark is gone", x.marksAt(0, 0), 0);
        Check.same("undo of a TYPE", x.undo(0), 4);
        Check.same("undo of an ERASE", x.undo(0), 6);
        Check.sameText("undo of an ERASE", x, 0, "abcdef");
        Check.same("undo of the first one", x.undo(0), 0);
        Check.same("DONE and UNDONE", x.undoable(0) * 10 + x.redoable(0), 4);
        Check.same("each is a deed", x.deeds(), 8);
        Check.same("the cells stay", x.cellsOf(0), 7);
        Check.wrongState(x, "undo without a deed", () -> x.undo(0));
        x.join(0);
        x.type(0, 0, 1, 1);
        x.deliverAll(0, 1);
        Check.wrongState(x, "only own ones are taken back", () -> x.undo(1));
    }

    private static void promise6EightAtMost() {
        SharedPalimpsest x = new SharedPalimpsest();
        for (int i = 0; i < 9; i++) {
            x.type(0, i, i, 1);
        }
        Check.same("DONE has 8 at the most", x.undoable(0), 8);
        for (int i = 0; i < 8; i++) {
            Check.same("undo " + i, x.undo(0), 8 - i);
        }
        Check.wrongState(x, "the ninth one back is not DONE", () -> x.undo(0));
        Check.sameText("the first one stays", x, 0, "a");
        Check.same("UNDONE has 8", x.redoable(0), 8);
        for (int i = 0; i < 8; i++) {
            x.redo(0);
        }
        Check.same("DONE has 8 again", x.undoable(0), 8);
        x.undo(0);
        x.typeAtCaret(0, 20, 1);
        Check.same("DONE and UNDONE behind a deed", x.undoable(0) * 10 + x.redoable(0), 80);
    }

    private static void promise6Refused() {
        SharedPalimpsest x = new SharedPalimpsest();
        for (int writer : NO_WRITERS) {
            Check.noWriter(x, "undo by " + writer, () -> x.undo(writer));
        }
        Check.wrongState(x, "undo of nothing", () -> x.undo(0));
        x.type(0, 0, 0, 1);
        fillUp(x);
        Check.wrongState(x, "undo behind 120 deeds", () -> x.undo(0));
        Check.noWriter(x, "undo by nobody behind 120 deeds", () -> x.undo(1));
    }

    private static void promise7Redo() {
        SharedPalimpsest x = abcdef();
        x.erase(0, 0, 1);
        x.type(0, 0, 9, 2);
        Check.sameText("three deeds", x, 0, "jkbcdef");
        x.undo(0);
        x.undo(0);
        Check.same("redo of an ERASE", x.redo(0), 5);
        Check.sameText("redo of an ERASE", x, 0, "bcdef");
        Check.same("redo of a TYPE", x.redo(0), 7);
        Check.sameText("redo of a TYPE", x, 0, "jkbcdef");
        Check.same("DONE and UNDONE", x.undoable(0) * 10 + x.redoable(0), 30);
        Check.same("undo of what was redone", x.undo(0), 5);
        Check.same("and redo once more", x.redo(0), 7);
        x.mark(0, 0, 7, 1, true);
        x.undo(0);
        x.redo(0);
        Check.same("redo of a MARK", x.marksAt(0, 6), 2);
        x.undo(0);
        x.moveCaret(0, 3);
        Check.same("moveCaret leaves UNDONE", x.redoable(0), 1);
        x.undo(0);
        x.redo(0);
        Check.same("a TYPE that is redone leaves the caret", x.caret(0), 3);
        Check.same("deeds", x.deeds(), 15);
        x.erase(0, 0, 1);
        Check.wrongState(x, "an own deed empties UNDONE", () -> x.redo(0));
    }

    private static void promise7Refused() {
        SharedPalimpsest x = new SharedPalimpsest();
        for (int writer : NO_WRITERS) {
            Check.noWriter(x, "redo by " + writer, () -> x.redo(writer));
        }
        Check.wrongState(x, "redo of nothing", () -> x.redo(0));
        x.join(0);
        x.type(0, 0, 0, 1);
        Check.wrongState(x, "redo with DONE alone", () -> x.redo(0));
        x.undo(0);
        Check.wrongState(x, "redo of another one's", () -> x.redo(1));
        for (int i = 0; i < 59; i++) {
            x.type(1, 0, 1, 1);
            x.undo(1);
        }
        Check.same("120 deeds", x.deeds(), 120);
        Check.wrongState(x, "redo behind 120 deeds", () -> x.redo(0));
        Check.same("UNDONE has it still", x.redoable(0), 1);
    }

    private static void promise8MoveCaret() {
        SharedPalimpsest x = abcdef();
        Check.same("moveCaret answers the one before", x.moveCaret(0, 2), 6);
        Check.same("moveCaret to the BEGINNING", x.moveCaret(0, 0), 2);
        Check.same("moveCaret to the end", x.moveCaret(0, 6), 0);
        Check.same("caret at the end", x.caret(0), 6);
        Check.same("it is no deed", x.deeds(), 1);
        x.join(0);
        x.moveCaret(1, 3);
        x.type(0, 0, 25, 2);
        x.erase(0, 3, 1);
        x.deliverAll(0, 1);
        Check.same("the caret stays behind its cell", x.caret(1), 4);
        x.erase(0, 3, 2);
        x.deliverAll(0, 1);
        Check.sameText("its cell is hidden", x, 1, "z aef");
        Check.same("the caret behind a hidden cell", x.caret(1), 3);
        Check.same("moveCaret from there", x.moveCaret(1, 4), 3);
    }

    private static void promise8Refused() {
        SharedPalimpsest x = abcdef();
        for (int writer : NO_WRITERS) {
            Check.noWriter(x, "moveCaret of " + writer, () -> x.moveCaret(writer, -1));
        }
        for (int position : new int[] {-1, 7, Integer.MAX_VALUE, Integer.MIN_VALUE}) {
            Check.wrongArgument(x, "moveCaret to " + position, () -> x.moveCaret(0, position));
        }
        fillUp(x);
        Check.same("moveCaret behind 120 deeds", x.moveCaret(0, 1), 6);
    }
}
