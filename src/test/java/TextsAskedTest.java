/** Promises 32 to 46: what is asked of texts. */
public final class TextsAskedTest {
    private static final int[] NO_WRITERS = {-1, 3, 6, Integer.MAX_VALUE, Integer.MIN_VALUE};
    private static final int[] FAR = {-1, Integer.MAX_VALUE, Integer.MIN_VALUE};

    private interface OfPosition {
        long at(SharedPalimpsest x, int writer, int position);
    }

    public static void main(String[] arguments) {
        promise32Length();
        promise33CellsOf();
        promise34LetterAt();
        promise35AuthorAt();
        promise36StampAt();
        promise37MarksAt();
        promise38CellAt();
        promise39LengthIn();
        promise40LetterIn();
        promise41Find();
        promise42Words();
        promise43LongestBy();
        promise44ShareOf();
        promise45Apart();
        promise46AreAlike();
        Check.end("TextsAskedTest");
    }

    /**
     * Writers 0 to 2; 0 did "abc", 1 put "kl" behind the a and 0 knows that, 0 hid the b; 2 knows
     * "abc" alone. The text of 0 is "aklc", that of 1 "aklbc".
     */
    private static SharedPalimpsest three() {
        SharedPalimpsest x = new SharedPalimpsest();
        x.type(0, 0, 0, 3);
        x.join(0);
        x.join(0);
        x.type(1, 1, 10, 2);
        x.deliverAll(1, 0);
        x.erase(0, 3, 1);
        return x;
    }

    private static void refuses(String name, OfPosition call) {
        SharedPalimpsest x = three();
        for (int writer : NO_WRITERS) {
            Check.noWriter(x, name + " of " + writer, () -> call.at(x, writer, -1));
        }
        for (int position : FAR) {
            Check.wrongArgument(x, name + " at " + position, () -> call.at(x, 0, position));
        }
        Check.wrongArgument(x, name + " behind the last", () -> call.at(x, 0, 4));
        SharedPalimpsest y = new SharedPalimpsest();
        Check.wrongArgument(y, name + " of an empty text", () -> call.at(y, 0, 0));
        x.leave(0);
        Check.noWriter(x, name + " of one that left", () -> call.at(x, 0, 0));
    }

    private static void promise32Length() {
        SharedPalimpsest x = three();
        Check.same("length(0)", x.length(0), 4);
        Check.same("length(1)", x.length(1), 5);
        Check.same("length(2)", x.length(2), 3);
        x.erase(2, 0, 3);
        Check.same("length of an empty text", x.length(2), 0);
        for (int writer : NO_WRITERS) {
            Check.noWriter(x, "length(" + writer + ")", () -> x.length(writer));
        }
    }

    private static void promise33CellsOf() {
        SharedPalimpsest x = three();
        Check.same("cellsOf(0), one hidden", x.cellsOf(0), 5);
        Check.same("cellsOf(1)", x.cellsOf(1), 5);
        Check.same("cellsOf(2)", x.cellsOf(2), 3);
        x.undo(1);
        Check.same("those of an undone TYPE too", x.cellsOf(1), 5);
        for (int writer : NO_WRITERS) {
            Check.noWriter(x, "cellsOf(" + writer + ")", () -> x.cellsOf(writer));
        }
    }

    private static void promise34LetterAt() {
        SharedPalimpsest x = three();
        int[] due = {0, 10, 11, 2};
        for (int position = 0; position < due.length; position++) {
            Check.same("letterAt(0, " + position + ")", x.letterAt(0, position), due[position]);
        }
        Check.same("letterAt(1, 3)", x.letterAt(1, 3), 1);
        x.type(2, 0, 26, 1);
        Check.same("a blank", x.letterAt(2, 0), 26);
        refuses("letterAt", (y, writer, position) -> y.letterAt(writer, position));
    }

    private static void promise35AuthorAt() {
        SharedPalimpsest x = three();
        int[] due = {0, 1, 1, 0};
        for (int position = 0; position < due.length; position++) {
            Check.same("authorAt(0, " + position + ")", x.authorAt(0, position), due[position]);
        }
        x.leave(1);
        Check.same("of one that left", x.authorAt(0, 2), 1);
        refuses("authorAt", (y, writer, position) -> y.authorAt(writer, position));
    }

    private static void promise36StampAt() {
        SharedPalimpsest x = three();
        int[] due = {1, 2, 2, 1};
        for (int position = 0; position < due.length; position++) {
            Check.same("stampAt(0, " + position + ")", x.stampAt(0, position), due[position]);
        }
        x.type(0, 0, 25, 1);
        Check.same("behind an ERASE with 3", x.stampAt(0, 0), 4);
        x.undo(0);
        x.redo(0);
        Check.same("REDO leaves the STAMP of the TYPE", x.stampAt(0, 0), 4);
        x.type(2, 0, 25, 1);
        Check.same("of one that knows little", x.stampAt(2, 0), 2);
        x.mark(2, 0, 1, 0, true);
        x.type(0, 5, 9, 1);
        Check.same("UNDO and REDO have STAMPs", x.stampAt(0, 5), 7);
        x.deliverAll(0, 2);
        x.type(2, 0, 1, 1);
        Check.same("what waits has no say", x.stampAt(2, 0), 4);
        refuses("stampAt", (y, writer, position) -> y.stampAt(writer, position));
    }

    private static void promise37MarksAt() {
        SharedPalimpsest x = three();
        x.mark(0, 0, 3, 0, true);
        x.mark(0, 1, 3, 1, true);
        x.mark(0, 2, 2, 2, true);
        int[] due = {1, 3, 7, 6};
        for (int position = 0; position < due.length; position++) {
            Check.same("marksAt(0, " + position + ")", x.marksAt(0, position), due[position]);
        }
        x.undo(0);
        Check.same("one is undone", x.marksAt(0, 2), 3);
        x.redo(0);
        Check.same("and redone", x.marksAt(0, 2), 7);
        Check.same("1 knows of none", x.marksAt(1, 2), 0);
        x.undo(0);
        x.undo(0);
        x.undo(0);
        x.undo(0);
        Check.sameText("the ERASE is undone", x, 0, "aklbc");
        Check.same("no mark is left", x.marksAt(0, 2), 0);
        refuses("marksAt", (y, writer, position) -> y.marksAt(writer, position));
    }

    private static void promise38CellAt() {
        SharedPalimpsest x = three();
        int[] due = {0, 42, 43, -2, 2};
        for (int place = 0; place < due.length; place++) {
            Check.same("cellAt(0, " + place + ")", x.cellAt(0, place), due[place]);
        }
        Check.same("cellAt(1, 3) is VISIBLE", x.cellAt(1, 3), 1);
        x.undo(1);
        Check.same("of an undone TYPE", x.cellAt(1, 2), -44);
        x.erase(0, 0, 1);
        Check.same("a hidden a of writer 0", x.cellAt(0, 0), -1);
        SharedPalimpsest y = three();
        for (int place : new int[] {-1, 5, Integer.MAX_VALUE, Integer.MIN_VALUE}) {
            Check.wrongArgument(y, "cellAt place " + place, () -> y.cellAt(0, place));
        }
        Check.wrongArgument(y, "cellAt(2, 3) of three", () -> y.cellAt(2, 3));
        for (int writer : NO_WRITERS) {
            Check.noWriter(y, "cellAt of " + writer, () -> y.cellAt(writer, -1));
        }
    }

    private static void promise39LengthIn() {
        SharedPalimpsest x = three();
        x.undo(0);
        x.redo(0);
        int[] due = {0, 3, 5, 4, 5, 4};
        for (int version = 0; version < due.length; version++) {
            Check.same("lengthIn(0, " + version + ")", x.lengthIn(0, version), due[version]);
        }
        x.catchUp(0, 1);
        Check.same("the order of 1", x.lengthIn(1, 2), 5);
        Check.same("lengthIn of known()", x.lengthIn(1, 5), 4);
        x.type(2, 0, 25, 1);
        x.catchUp(0, 2);
        int[] ofTwo = {0, 3, 4, 6, 5, 6, 5};
        for (int version = 0; version < ofTwo.length; version++) {
            Check.same("lengthIn(2, " + version + ")", x.lengthIn(2, version), ofTwo[version]);
        }
        for (int version : new int[] {-1, 6, Integer.MAX_VALUE, Integer.MIN_VALUE}) {
            Check.wrongArgument(x, "lengthIn of " + version, () -> x.lengthIn(0, version));
        }
        for (int writer : NO_WRITERS) {
            Check.noWriter(x, "lengthIn by " + writer, () -> x.lengthIn(writer, -1));
        }
        Check.same("version 0 of a new one", new SharedPalimpsest().lengthIn(0, 0), 0);
    }

    private static void promise40LetterIn() {
        SharedPalimpsest x = three();
        Check.same("letterIn(0, 1, 1)", x.letterIn(0, 1, 1), 1);
        Check.same("letterIn(0, 2, 1)", x.letterIn(0, 2, 1), 10);
        Check.same("letterIn(0, 2, 3)", x.letterIn(0, 2, 3), 1);
        Check.same("letterIn(0, 3, 3)", x.letterIn(0, 3, 3), 2);
        for (int version : new int[] {-1, 4, Integer.MAX_VALUE, Integer.MIN_VALUE}) {
            Check.wrongArgument(x, "letterIn of " + version, () -> x.letterIn(0, version, 0));
        }
        Check.wrongArgument(x, "letterIn of version 0", () -> x.letterIn(0, 0, 0));
        Check.wrongArgument(x, "letterIn behind the last then", () -> x.letterIn(0, 1, 3));
        Check.wrongArgument(x, "letterIn behind the last", () -> x.letterIn(0, 3, 4));
        for (int position : FAR) {
            Check.wrongArgument(x, "letterIn at " + position, () -> x.letterIn(0, 2, position));
        }
        for (int writer : NO_WRITERS) {
            Check.noWriter(x, "letterIn by " + writer, () -> x.letterIn(writer, -1, -1));
        }
    }

    private static void promise41Find() {
        SharedPalimpsest x = three();
        x.type(0, 4, 0, 3);
        x.type(0, 7, 26, 1);
        Check.sameText("the text", x, 0, "aklcabc ");
        Check.same("the first a", x.find(0, 0, 0), 0);
        Check.same("the next a", x.find(0, 0, 1), 4);
        Check.same("from where it is", x.find(0, 0, 4), 4);
        Check.same("no more", x.find(0, 0, 5), -1);
        Check.same("a hidden one is not found", x.find(0, 1, 0), 5);
        Check.same("a blank", x.find(0, 26, 0), 7);
        Check.same("none", x.find(0, 25, 0), -1);
        Check.same("from behind the last", x.find(0, 26, 8), -1);
        Check.same("from far behind", x.find(0, 0, Integer.MAX_VALUE), -1);
        Check.same("in an empty text", new SharedPalimpsest().find(0, 0, 0), -1);
        for (int letter : new int[] {-1, 27, Integer.MAX_VALUE, Integer.MIN_VALUE}) {
            Check.wrongArgument(x, "find of " + letter, () -> x.find(0, letter, 0));
        }
        Check.wrongArgument(x, "find from -1", () -> x.find(0, 0, -1));
        Check.wrongArgument(x, "find from the least", () -> x.find(0, 0, Integer.MIN_VALUE));
        for (int writer : NO_WRITERS) {
            Check.noWriter(x, "find by " + writer, () -> x.find(writer, 27, -1));
        }
    }

    private static void promise42Words() {
        SharedPalimpsest x = new SharedPalimpsest();
        Check.same("words of nothing", x.words(0), 0);
        x.type(0, 0, 26, 1);
        Check.same("words of a blank", x.words(0), 0);
        x.type(0, 0, 26, 1);
        x.type(0, 1, 0, 3);
        Check.same("one, blanks around", x.words(0), 1);
        x.type(0, 3, 26, 1);
        Check.same("cut in two", x.words(0), 2);
        x.type(0, 3, 26, 1);
        Check.same("two blanks between", x.words(0), 2);
        x.type(0, 7, 4, 1);
        Check.same("one at the end", x.words(0), 3);
        x.type(0, 0, 4, 1);
        Check.same("one at the BEGINNING", x.words(0), 4);
        x.erase(0, 1, 1);
        Check.same("a hidden blank parts nothing", x.words(0), 3);
        for (int writer : NO_WRITERS) {
            Check.noWriter(x, "words(" + writer + ")", () -> x.words(writer));
        }
    }

    private static void promise43LongestBy() {
        SharedPalimpsest x = three();
        Check.same("longestBy(0, 0)", x.longestBy(0, 0), 1);
        Check.same("longestBy(0, 1)", x.longestBy(0, 1), 2);
        Check.same("longestBy(0, 2)", x.longestBy(0, 2), 0);
        Check.same("longestBy(1, 0)", x.longestBy(1, 0), 2);
        Check.same("longestBy(2, 0)", x.longestBy(2, 0), 3);
        x.erase(0, 1, 2);
        Check.same("over what is hidden", x.longestBy(0, 0), 2);
        x.type(0, 1, 26, 1);
        Check.same("a blank counts", x.longestBy(0, 0), 3);
        x.leave(1);
        Check.same("of one that left", x.longestBy(0, 1), 0);
        Check.same("of an empty text", new SharedPalimpsest().longestBy(0, 0), 0);
        for (int writer : NO_WRITERS) {
            Check.noWriter(x, "longestBy " + writer, () -> x.longestBy(writer, 0));
            Check.noWriter(x, "longestBy author " + writer, () -> x.longestBy(0, writer));
        }
    }

    private static void promise44ShareOf() {
        SharedPalimpsest x = three();
        Check.sameShare("shareOf(0, 0)", x.shareOf(0, 0), 0.5);
        Check.sameShare("shareOf(1, 0)", x.shareOf(1, 0), 0.6);
        Check.sameShare("shareOf(1, 1)", x.shareOf(1, 1), 0.4);
        Check.sameShare("shareOf(1, 2)", x.shareOf(1, 2), 0.0);
        Check.sameShare("shareOf(2, 0)", x.shareOf(2, 0), 1.0);
        x.erase(0, 0, 1);
        Check.sameShare("a third", x.shareOf(0, 0), 1.0 / 3.0);
        x.leave(1);
        Check.sameShare("of one that left", x.shareOf(0, 1), 2.0 / 3.0);
        x.erase(2, 0, 3);
        Check.sameShare("of an empty text", x.shareOf(2, 0), 0.0);
        for (int writer : NO_WRITERS) {
            Check.noWriter(x, "shareOf " + writer, () -> (long) x.shareOf(writer, 0));
            Check.noWriter(x, "shareOf author " + writer, () -> (long) x.shareOf(0, writer));
        }
    }

    /** A new object whose writers 0 and 1 have these texts, and no deed in common. */
    private static SharedPalimpsest two(String one, String other) {
        SharedPalimpsest x = new SharedPalimpsest();
        x.join(0);
        for (int i = 0; i < one.length(); i++) {
            x.type(0, i, one.charAt(i) == ' ' ? 26 : one.charAt(i) - 'a', 1);
        }
        for (int i = 0; i < other.length(); i++) {
            x.type(1, i, other.charAt(i) == ' ' ? 26 : other.charAt(i) - 'a', 1);
        }
        return x;
    }

    private static void promise45Apart() {
        String[][] texts = {
            {"", "", "0"}, {"", "abc", "3"}, {"abc", "abc", "0"}, {"abc", "abd", "1"},
            {"abc", "bc", "1"}, {"kitten", "sitting", "3"}, {"sunday", "saturday", "3"},
            {"intention", "execution", "5"}, {"ab ab", "ba ba", "4"}, {"abcdef", "fedcba", "6"},
            {"flaw", "lawn", "2"}, {"a", "bbbbbab", "6"},
        };
        for (String[] text : texts) {
            SharedPalimpsest x = two(text[0], text[1]);
            int due = Integer.parseInt(text[2]);
            Check.same("apart of " + text[0] + " and " + text[1], x.apart(0, 1), due);
            Check.same("apart of " + text[1] + " and " + text[0], x.apart(1, 0), due);
            Check.same("apart of the same", x.apart(1, 1), 0);
        }
        SharedPalimpsest x = three();
        Check.same("apart(0, 1)", x.apart(0, 1), 1);
        Check.same("apart(0, 2)", x.apart(0, 2), 2);
        x.mark(0, 0, 4, 0, true);
        Check.same("marks do not count", x.apart(0, 1), 1);
        for (int writer : NO_WRITERS) {
            Check.noWriter(x, "apart of " + writer, () -> x.apart(writer, 0));
            Check.noWriter(x, "apart from " + writer, () -> x.apart(0, writer));
        }
        longestTexts();
    }

    /** The longest texts that can be: 120 deeds of six letters. */
    private static void longestTexts() {
        SharedPalimpsest x = new SharedPalimpsest();
        for (int i = 0; i < 119; i++) {
            x.type(0, x.length(0), i % 27, 6);
        }
        x.join(0);
        x.type(0, 0, 3, 6);
        Check.same("the longest text", x.length(0), 720);
        Check.same("apart of the longest ones", x.apart(0, 1), 6);
        Check.same("and the other way", x.apart(1, 0), 6);
        Check.same("its cells", x.cellsOf(0), 720);
        Check.wrongState(x, "no more deeds", () -> x.type(0, 0, 0, 1));
    }

    private static void promise46AreAlike() {
        SharedPalimpsest x = two("ab", "ab");
        Check.same("other authors", x.areAlike(0, 1), false);
        Check.same("the same writer", x.areAlike(0, 0), true);
        SharedPalimpsest y = three();
        Check.same("other lengths", y.areAlike(0, 1), false);
        y.deliverAll(0, 1);
        Check.same("the same deeds", y.areAlike(0, 1), true);
        y.mark(0, 0, 1, 1, true);
        Check.same("another mark", y.areAlike(0, 1), false);
        y.mark(1, 0, 1, 1, true);
        Check.same("the same mark by another deed", y.areAlike(0, 1), true);
        y.mark(1, 1, 1, 2, false);
        Check.same("a mark with off shows nothing", y.areAlike(0, 1), true);
        SharedPalimpsest z = new SharedPalimpsest();
        z.join(0);
        Check.same("both are empty", z.areAlike(0, 1), true);
        z.type(0, 0, 1, 1);
        z.deliverAll(0, 1);
        z.erase(0, 0, 1);
        z.type(0, 0, 1, 1);
        Check.same("other cells, the same looks", z.areAlike(1, 0), true);
        z.type(0, 1, 2, 1);
        z.type(0, 1, 3, 1);
        z.undo(0);
        z.undo(0);
        z.erase(0, 0, 1);
        z.type(0, 0, 2, 1);
        Check.same("another letter", z.areAlike(1, 0), false);
        for (int writer : NO_WRITERS) {
            Check.noWriter(y, "areAlike of " + writer, () -> y.areAlike(writer, 0) ? 1 : 0);
            Check.noWriter(y, "areAlike with " + writer, () -> y.areAlike(0, writer) ? 1 : 0);
        }
    }
}
