/**
 * The boundary cases that promises 17 to 46 name: what is answered at the least and at the most,
 * of an empty text and of the longest one, and what is refused.
 */
public final class EdgesOfAnswersTest {
    private static final int BLANK = 26;
    private static final int GREATEST = Integer.MAX_VALUE;
    private static final int LEAST = Integer.MIN_VALUE;

    public static void main(String[] arguments) {
        promise17To20();
        promise18();
        promise21And22();
        promise23();
        promise24And25();
        promise26();
        promise27();
        promise28And29();
        promise30();
        promise31MinusOne();
        promise31InItsOwnText();
        promise32And33();
        promise34To37Positions();
        promise34To37Answers();
        promise37AddedUp();
        promise38();
        promise39();
        promise40();
        promise41();
        promise42();
        promise43();
        promise44();
        promise45();
        promise45AtTheMost();
        promise46();
        Check.end("EdgesOfAnswersTest");
    }

    /** A new object with a text of so many letters by writer 0: a, b and so on to z, a blank, a. */
    private static SharedPalimpsest letters(int many) {
        SharedPalimpsest x = new SharedPalimpsest();
        for (int i = 0; i < many; i++) {
            x.type(0, i, i % 27, 1);
        }
        return x;
    }

    /** A new object with six writers that all know a text of so many letters by writer 0. */
    private static SharedPalimpsest six(int many) {
        SharedPalimpsest x = letters(many);
        for (int i = 1; i < 6; i++) {
            x.join(0);
        }
        return x;
    }

    /** A new object whose writers 0 and 1 have these texts (a to z, and a blank). */
    private static SharedPalimpsest two(String one, String other) {
        SharedPalimpsest x = new SharedPalimpsest();
        x.join(0);
        put(x, 0, one);
        put(x, 1, other);
        return x;
    }

    private static void put(SharedPalimpsest x, int writer, String text) {
        for (int i = 0; i < text.length(); i++) {
            x.type(writer, i, text.charAt(i) == ' ' ? BLANK : text.charAt(i) - 'a', 1);
        }
    }

    /** "how many writers came, PRESENT or not", "how many deeds were done in all", by an author. */
    private static void promise17To20() {
        SharedPalimpsest x = six(114);
        Check.same("six came", x.writers(), 6);
        for (int writer = 0; writer < 6; writer++) {
            Check.same("of each author", x.deedsOf(writer), writer == 0 ? 114 : 0);
            x.type(writer, 0, 0, 1);
            Check.same("known to nobody else", x.deedsOf(writer), writer == 0 ? 115 : 1);
        }
        Check.same("all deeds", x.deeds(), 120);
        for (int writer = 0; writer < 5; writer++) {
            x.leave(writer);
        }
        Check.same("came, though five left", x.writers(), 6);
        Check.same("done, though known to nobody", x.deeds(), 120);
        Check.same("of one that left", x.deedsOf(0), 115);
        Check.noWriter(x, "no author 6", () -> x.deedsOf(6));
        Check.noWriter(x, "no author -1", () -> x.deedsOf(-1));
    }

    /** "whether a writer with this number is PRESENT": any number may be asked. */
    private static void promise18() {
        SharedPalimpsest x = six(0);
        x.leave(3);
        for (int number = -2; number <= 8; number++) {
            Check.same("isPresent(" + number + ")", x.isPresent(number),
                    number >= 0 && number <= 5 && number != 3);
        }
        Check.same("the greatest", x.isPresent(GREATEST), false);
        Check.same("the least", x.isPresent(LEAST), false);
    }

    /** "how many deeds it knows", "how many deeds of that author". */
    private static void promise21And22() {
        SharedPalimpsest x = six(114);
        for (int writer = 1; writer < 6; writer++) {
            x.type(writer, 0, 0, 1);
            Check.same("its own, too", x.known(writer), 115);
            x.catchUp(writer, 0);
        }
        x.undo(0);
        Check.same("all that there can be", x.known(0), 120);
        int[] due = {115, 1, 1, 1, 1, 1};
        for (int author = 0; author < 6; author++) {
            Check.same("of each author", x.knownOf(0, author), due[author]);
            Check.same("of one that did none it knows", x.knownOf(5, author),
                    author == 0 ? 114 : author == 5 ? 1 : 0);
        }
        x.leave(4);
        Check.same("of one that left", x.knownOf(0, 4), 1);
        SharedPalimpsest y = new SharedPalimpsest();
        Check.same("none", y.known(0) + y.knownOf(0, 0), 0);
        Check.noWriter(y, "no such author came", () -> y.knownOf(0, 1));
    }

    /** "how many deeds are WAITING there". */
    private static void promise23() {
        SharedPalimpsest x = new SharedPalimpsest();
        x.join(0);
        for (int i = 0; i < 120; i++) {
            x.type(0, 0, 0, 1);
        }
        for (int waiting = 0; waiting < 119; waiting++) {
            Check.same("WAITING", x.waiting(1), waiting);
            x.deliver(0, 1, 1);
        }
        Check.same("all but one", x.waiting(1), 119);
        Check.same("at the author none", x.waiting(0), 0);
        x.deliver(0, 1, 0);
        Check.same("none", x.waiting(1), 0);
    }

    /** "how many deeds are in the channel", "whether they are CUT OFF". */
    private static void promise24And25() {
        SharedPalimpsest x = six(0);
        for (int i = 0; i < 120; i++) {
            x.type(5, 0, 0, 1);
        }
        for (int to = 0; to < 5; to++) {
            Check.same("the greatest writer's channels", x.inChannel(5, to), 120);
            Check.same("the other way", x.inChannel(to, 5), 0);
            x.cut(5, to);
            Check.same("CUT OFF", x.areCut(to, 5), true);
        }
        for (int writer = 0; writer < 6; writer++) {
            int one = writer;
            Check.wrongArgument(x, "no channel to oneself", () -> x.inChannel(one, one));
            Check.wrongArgument(x, "never from oneself", () -> x.areCut(one, one) ? 1 : 0);
        }
    }

    /** "how many deeds the first one knows and the other one does not"; "or the same". */
    private static void promise26() {
        SharedPalimpsest x = two("abc", "kl");
        Check.same("three", x.missing(0, 1), 3);
        Check.same("two the other way", x.missing(1, 0), 2);
        Check.same("the same", x.missing(0, 0), 0);
        x.catchUp(0, 1);
        Check.same("none", x.missing(0, 1), 0);
        Check.same("still two", x.missing(1, 0), 2);
        SharedPalimpsest y = new SharedPalimpsest();
        y.join(0);
        Check.same("none of none", y.missing(0, 1), 0);
        for (int i = 0; i < 120; i++) {
            y.type(0, 0, 0, 1);
        }
        Check.same("all", y.missing(0, 1), 120);
        x.leave(0);
        Check.noWriter(x, "of one that left", () -> x.missing(0, 0));
    }

    /** "whether all that are PRESENT know the same deeds". */
    private static void promise27() {
        SharedPalimpsest x = six(1);
        Check.same("all six", x.agree(), true);
        for (int writer = 0; writer < 6; writer++) {
            x.mark(writer, 0, 1, 0, true);
            Check.same("one knows one more", x.agree(), false);
            for (int to = 0; to < 6; to++) {
                if (to != writer) {
                    Check.same("not till the last one has it", x.agree(), false);
                    x.deliverAll(writer, to);
                }
            }
            Check.same("all six again", x.agree(), true);
        }
        x.mark(5, 0, 1, 0, true);
        x.mark(3, 0, 1, 0, true);
        x.leave(3);
        Check.same("5 knows one more", x.agree(), false);
        x.leave(5);
        Check.same("those that left do not count", x.agree(), true);
    }

    /** "how many deeds its DONE has", "how many deeds its UNDONE has". */
    private static void promise28And29() {
        SharedPalimpsest x = new SharedPalimpsest();
        for (int i = 0; i <= 10; i++) {
            Check.same("DONE, 8 at the most", x.undoable(0), Math.min(i, 8));
            Check.same("UNDONE is empty", x.redoable(0), 0);
            x.type(0, 0, 0, 1);
        }
        for (int i = 0; i <= 8; i++) {
            Check.same("DONE, down to none", x.undoable(0), 8 - i);
            Check.same("UNDONE, 8 at the most", x.redoable(0), i);
            if (i < 8) {
                x.undo(0);
            }
        }
        x.join(0);
        Check.same("of one that joins", x.undoable(1) + x.redoable(1), 0);
    }

    /** "the position of its caret". */
    private static void promise30() {
        SharedPalimpsest x = new SharedPalimpsest();
        Check.same("in an empty text", x.caret(0), 0);
        for (int i = 0; i < 120; i++) {
            x.typeAtCaret(0, 0, 6);
        }
        Check.same("at the end of the longest text", x.caret(0), 720);
        x.moveCaret(0, 719);
        Check.same("ahead of its last letter", x.caret(0), 719);
        x.moveCaret(0, 0);
        Check.same("at the BEGINNING", x.caret(0), 0);
    }

    /** "-1 if it knows no deed of that one, or both are the same". */
    private static void promise31MinusOne() {
        SharedPalimpsest x = six(3);
        for (int writer = 0; writer < 6; writer++) {
            Check.same("both are the same", x.caretSeen(writer, writer), -1);
            for (int other = 1; other < 6; other++) {
                Check.same("no deed was done", x.caretSeen(writer, other), -1);
            }
        }
        x.type(1, 0, 10, 1);
        Check.same("no deed is known", x.caretSeen(0, 1), -1);
        Check.same("of itself, though it knows one", x.caretSeen(1, 1), -1);
        x.undo(1);
        x.deliver(1, 0, 1);
        Check.same("one is WAITING", x.caretSeen(0, 1), -1);
        x.leave(1);
        Check.same("of one that left, no deed known", x.caretSeen(0, 1), -1);
        Check.noWriter(x, "no such other one came", () -> x.caretSeen(0, 6));
        Check.noWriter(x, "nor -1", () -> x.caretSeen(0, -1));
        Check.noWriter(x, "the writer must be PRESENT", () -> x.caretSeen(1, 0));
    }

    /** "the position of the caret that it SEES of the other one, in its own text". */
    private static void promise31InItsOwnText() {
        SharedPalimpsest x = six(3);
        Check.same("at the end", x.caretSeen(1, 0), 3);
        x.erase(1, 0, 3);
        Check.same("in an empty text", x.caretSeen(1, 0), 0);
        x.type(1, 0, 10, 6);
        Check.same("behind six", x.caretSeen(1, 0), 6);
        x.moveCaret(0, 0);
        x.mark(0, 0, 1, 0, true);
        x.deliverAll(0, 1);
        Check.same("at the BEGINNING", x.caretSeen(1, 0), 0);
        Check.same("in that of another one as it was", x.caretSeen(2, 0), 3);
        x.leave(0);
        Check.same("of one that left", x.caretSeen(2, 0), 3);
    }

    /** "how long its text is", "how many cells it knows, visible or not". */
    private static void promise32And33() {
        SharedPalimpsest x = new SharedPalimpsest();
        Check.same("none", x.length(0) + x.cellsOf(0), 0);
        for (int i = 0; i < 119; i++) {
            x.type(0, 0, 0, 6);
        }
        Check.same("visible", x.length(0), 714);
        Check.same("or not", x.cellsOf(0), 714);
        x.erase(0, 702, 12);
        Check.same("fewer", x.length(0), 702);
        Check.same("as many", x.cellsOf(0), 714);
        SharedPalimpsest y = letters(3);
        y.join(0);
        y.type(1, 0, 0, 6);
        Check.same("that it knows", y.cellsOf(0), 3);
        y.undo(0);
        y.erase(0, 0, 2);
        Check.same("an empty text", y.length(0), 0);
        Check.same("with three cells", y.cellsOf(0), 3);
    }

    /** "if there is no such position". */
    private static void promise34To37Positions() {
        Check.NumberCall[] calls = {
            (x, n) -> x.letterAt(0, n), (x, n) -> x.authorAt(0, n),
            (x, n) -> x.stampAt(0, n), (x, n) -> x.marksAt(0, n),
        };
        for (Check.NumberCall call : calls) {
            Check.range("of one, at", () -> letters(1), call, 0, 0);
            Check.range("of five, at", () -> letters(5), call, 0, 4);
            SharedPalimpsest x = letters(0);
            for (int position : new int[] {-1, 0, 1, GREATEST, LEAST}) {
                Check.wrongArgument(x, "an empty text", () -> call.run(x, position));
            }
            SharedPalimpsest y = letters(5);
            y.erase(0, 1, 3);
            Check.taken("the last one of two", y, call, 1);
            Check.wrongArgument(y, "behind the last one, though cells are there",
                    () -> call.run(y, 2));
        }
    }

    /** "the letter there", "the author of the cell there", "the STAMP of the TYPE". */
    private static void promise34To37Answers() {
        SharedPalimpsest x = new SharedPalimpsest();
        for (int i = 0; i < 119; i++) {
            x.type(0, i, 0, 1);
        }
        for (int i = 1; i < 6; i++) {
            x.join(0);
        }
        x.type(5, 119, BLANK, 1);
        Check.same("the least letter", x.letterAt(5, 0), 0);
        Check.same("the greatest letter", x.letterAt(5, 119), BLANK);
        Check.same("the least author", x.authorAt(5, 118), 0);
        Check.same("the greatest author", x.authorAt(5, 119), 5);
        Check.same("the least STAMP", x.stampAt(5, 0), 1);
        Check.same("the greatest STAMP", x.stampAt(5, 119), 120);
        x.leave(0);
        Check.same("of an author that left", x.authorAt(5, 0), 0);
    }

    /** "1, 2 and 4 for a mark of the kind 0, 1 and 2 of the cell there, added up". */
    private static void promise37AddedUp() {
        for (int marks = 0; marks < 8; marks++) {
            SharedPalimpsest x = letters(2);
            for (int kind = 0; kind < 3; kind++) {
                x.mark(0, 0, 2, kind, true);
                if ((marks >> kind) % 2 == 0) {
                    x.mark(0, 0, 1, kind, false);
                }
            }
            Check.same("marks " + marks, x.marksAt(0, 0), marks);
            Check.same("all of them", x.marksAt(0, 1), 7);
        }
    }

    /** "a place among all cells that it knows, from 0"; "if it is not VISIBLE, -1 - v". */
    private static void promise38() {
        Check.range("of one, place", () -> letters(1), (x, n) -> x.cellAt(0, n), 0, 0);
        Check.Maker hidden = () -> {
            SharedPalimpsest x = letters(6);
            x.erase(0, 0, 6);
            return x;
        };
        Check.range("of six hidden, place", hidden, (x, n) -> x.cellAt(0, n), 0, 5);
        SharedPalimpsest x = letters(0);
        Check.wrongArgument(x, "without cells", () -> x.cellAt(0, 0));
        SharedPalimpsest y = six(0);
        y.type(0, 0, 0, 1);
        y.type(5, 0, BLANK, 1);
        Check.same("the least one", y.cellAt(0, 0), 0);
        Check.same("the greatest one", y.cellAt(5, 0), 186);
        y.undo(0);
        y.erase(5, 0, 1);
        Check.same("the least one hidden", y.cellAt(0, 0), -1);
        Check.same("the greatest one hidden", y.cellAt(5, 0), -187);
        Check.wrongArgument(y, "one that it does not know", () -> y.cellAt(0, 1));
    }

    /** "if version is not 0 to known()". */
    private static void promise39() {
        Check.range("of none, version", () -> letters(0), (x, n) -> x.lengthIn(0, n), 0, 0);
        Check.range("of five, version", () -> letters(5), (x, n) -> x.lengthIn(0, n), 0, 5);
        SharedPalimpsest x = new SharedPalimpsest();
        for (int i = 0; i < 120; i++) {
            x.type(0, 0, 0, 6);
        }
        for (int version = 0; version <= 120; version++) {
            Check.same("of each", x.lengthIn(0, version), 6 * version);
        }
        Check.wrongArgument(x, "121", () -> x.lengthIn(0, 121));
        x.join(0);
        Check.same("of what it joined with", x.lengthIn(1, 60), 360);
        SharedPalimpsest y = letters(2);
        y.join(0);
        y.type(0, 0, 0, 1);
        Check.wrongArgument(y, "known() of another one", () -> y.lengthIn(1, 3));
        Check.same("its own known()", y.lengthIn(1, 2), 2);
    }

    /** "if version is not 0 to known(), or there was no such position". */
    private static void promise40() {
        Check.range("first of version, but 0", () -> letters(5),
                (x, n) -> x.letterIn(0, n, 0), 1, 5);
        for (int version = 1; version <= 5; version++) {
            int each = version;
            Check.range("of version " + version + ", at", () -> letters(5),
                    (x, n) -> x.letterIn(0, each, n), 0, version - 1);
        }
        SharedPalimpsest x = letters(3);
        x.erase(0, 0, 3);
        Check.wrongArgument(x, "VERSION 0 has none", () -> x.letterIn(0, 0, 0));
        Check.same("the last one that was there", x.letterIn(0, 3, 2), 2);
        Check.wrongArgument(x, "there it is no more", () -> x.letterIn(0, 4, 0));
        Check.wrongArgument(x, "no such VERSION", () -> x.letterIn(0, 5, 0));
        Check.wrongArgument(x, "VERSION -1", () -> x.letterIn(0, -1, 0));
        Check.wrongArgument(x, "both wrong", () -> x.letterIn(0, GREATEST, LEAST));
    }

    /** "from: a position, or more"; "letter is not 0 to 26, or from is less than 0". */
    private static void promise41() {
        Check.range("find letter", () -> letters(27), (x, n) -> x.find(0, n, 0), 0, 26);
        Check.range("find letter in nothing", () -> letters(0), (x, n) -> x.find(0, n, 0), 0, 26);
        SharedPalimpsest x = letters(28);
        for (int letter = 0; letter <= 26; letter++) {
            Check.same("each where it is", x.find(0, letter, 0), letter);
            Check.same("from where it is", x.find(0, letter, letter), letter);
            Check.same("from behind it", x.find(0, letter, letter + 1), letter == 0 ? 27 : -1);
        }
        Check.same("at the last position", x.find(0, 0, 27), 27);
        Check.same("from the length on", x.find(0, 0, 28), -1);
        Check.same("from more", x.find(0, 0, 29), -1);
        Check.same("from the greatest", x.find(0, 0, GREATEST), -1);
        Check.wrongArgument(x, "from less than 0", () -> x.find(0, 0, -1));
        Check.wrongArgument(x, "from the least", () -> x.find(0, 0, LEAST));
        Check.wrongArgument(x, "both wrong", () -> x.find(0, 27, -1));
        x.erase(0, 0, 1);
        Check.same("a hidden one is not there", x.find(0, 0, 0), 26);
    }

    /** "rows of letters but 26, as long as can be". */
    private static void promise42() {
        String[][] texts = {
            {"", "0"}, {" ", "0"}, {"    ", "0"}, {"a", "1"}, {"z", "1"}, {"abc", "1"},
            {" a", "1"}, {"a ", "1"}, {" a ", "1"}, {"a b", "2"}, {"a  b", "2"},
            {" ab  cd   ef ", "3"}, {"a b c d e f", "6"},
        };
        for (String[] text : texts) {
            SharedPalimpsest x = two(text[0], "");
            Check.same("words of \"" + text[0] + "\"", x.words(0), Integer.parseInt(text[1]));
        }
        SharedPalimpsest x = new SharedPalimpsest();
        for (int i = 0; i < 60; i++) {
            x.type(0, 0, 25, 3);
        }
        Check.same("z, blank, a, sixty times", x.words(0), 61);
        SharedPalimpsest y = two("a b", "");
        y.erase(0, 1, 1);
        Check.same("a hidden blank cuts nothing", y.words(0), 1);
        y.undo(0);
        Check.same("shown again", y.words(0), 2);
    }

    /** "how many cells of its text, one behind another, are by this author, at the most". */
    private static void promise43() {
        SharedPalimpsest x = six(5);
        Check.same("all", x.longestBy(0, 0), 5);
        for (int author = 1; author < 6; author++) {
            Check.same("none by it", x.longestBy(0, author), 0);
        }
        x.type(1, 2, 10, 1);
        Check.same("the longer part, at the end", x.longestBy(1, 0), 3);
        Check.same("one", x.longestBy(1, 1), 1);
        x.type(1, 5, 11, 4);
        Check.same("the first ones as many as before", x.longestBy(1, 0), 2);
        Check.same("the longest one of its own", x.longestBy(1, 1), 4);
        x.erase(1, 2, 1);
        Check.same("over a hidden one, at the start", x.longestBy(1, 0), 4);
        x.erase(1, 0, 4);
        Check.same("at the start", x.longestBy(1, 1), 4);
        x.erase(1, 0, 5);
        Check.same("an empty text", x.longestBy(1, 1), 0);
        x.leave(0);
        Check.same("of one that left", x.longestBy(2, 0), 5);
        Check.noWriter(x, "no such author came", () -> x.longestBy(2, 6));
    }

    /** "the share of the cells of its text that are by this author, not cut; 0 of an empty text". */
    private static void promise44() {
        SharedPalimpsest x = new SharedPalimpsest();
        x.join(0);
        Check.sameShare("of an empty text", x.shareOf(0, 0), 0.0);
        x.type(0, 0, 0, 1);
        Check.sameShare("all", x.shareOf(0, 0), 1.0);
        Check.sameShare("none", x.shareOf(0, 1), 0.0);
        x.catchUp(0, 1);
        for (int many = 1; many <= 6; many++) {
            x.type(1, 0, 0, 1);
            Check.sameShare("not cut", x.shareOf(1, 0), 1.0 / (many + 1));
            Check.sameShare("the others", x.shareOf(1, 1), (double) many / (many + 1));
        }
        x.erase(1, 0, 7);
        Check.sameShare("of a text that is empty now", x.shareOf(1, 1), 0.0);
        x.leave(1);
        Check.sameShare("of one that left", x.shareOf(0, 1), 0.0);
        Check.noWriter(x, "no such author came", () -> (long) x.shareOf(0, 2));
    }

    /** "put in, taken out or replaced by another one, at the fewest". */
    private static void promise45() {
        String[][] texts = {
            {"", "", "0"}, {"a", "", "1"}, {"a", "a", "0"}, {"a", "b", "1"}, {"a", "ab", "1"},
            {"a", "ba", "1"}, {"ab", "ba", "2"}, {"abcdef", "abxdef", "1"},
            {"abcdef", "bcdefa", "2"}, {"abab", "baba", "2"}, {"abc", "xyz", "3"},
            {"abc", "wxyz", "4"}, {"aaaa", "aa", "2"}, {" ", "a", "1"}, {"a b", "ab", "1"},
            {"abcde", "ace", "2"}, {"xaybzc", "abc", "3"}, {"", "abcdefghijklmnop", "16"},
        };
        for (String[] text : texts) {
            SharedPalimpsest x = two(text[0], text[1]);
            int due = Integer.parseInt(text[2]);
            Check.same(text[0] + " to " + text[1], x.apart(0, 1), due);
            Check.same(text[1] + " to " + text[0], x.apart(1, 0), due);
            Check.same("the same writer", x.apart(0, 0) + x.apart(1, 1), 0);
        }
        SharedPalimpsest x = two("abc", "abc");
        x.mark(0, 0, 3, 0, true);
        Check.same("without marks and authors", x.apart(0, 1), 0);
        x.erase(0, 1, 1);
        Check.same("hidden letters are none", x.apart(0, 1), 1);
    }

    /** The longest texts that can be, and nothing. */
    private static void promise45AtTheMost() {
        SharedPalimpsest x = new SharedPalimpsest();
        x.join(0);
        for (int i = 0; i < 120; i++) {
            x.type(0, 0, 0, 6);
        }
        Check.same("720 put in", x.apart(1, 0), 720);
        Check.same("720 taken out", x.apart(0, 1), 720);
        SharedPalimpsest y = new SharedPalimpsest();
        y.join(0);
        for (int i = 0; i < 60; i++) {
            y.type(0, 0, 0, 6);
            y.type(1, 0, 6, 6);
        }
        Check.same("360 replaced", y.apart(1, 0), 360);
        y.catchUp(0, 1);
        Check.same("half of them taken out", y.apart(1, 0), 360);
    }

    /** "whether both texts have the same letters by the same authors with the same marks". */
    private static void promise46() {
        SharedPalimpsest x = six(3);
        Check.same("both know the same", x.areAlike(4, 5), true);
        Check.same("the same writer", x.areAlike(5, 5), true);
        x.type(4, 3, 25, 1);
        Check.same("one letter more at the end", x.areAlike(4, 5), false);
        Check.same("one letter less at the end", x.areAlike(5, 4), false);
        x.undo(4);
        Check.same("a hidden cell does not count", x.areAlike(4, 5), true);
        for (int kind = 0; kind < 3; kind++) {
            x.mark(4, 2, 1, kind, true);
            Check.same("a mark of the last letter", x.areAlike(5, 4), false);
            x.mark(5, 2, 1, kind, true);
            Check.same("the same mark", x.areAlike(5, 4), true);
        }
        x.mark(4, 0, 1, 0, true);
        Check.same("a mark of the first letter", x.areAlike(4, 5), false);
        x.erase(4, 0, 3);
        x.erase(5, 0, 3);
        Check.same("both are empty", x.areAlike(4, 5), true);
        Check.same("one is empty", x.areAlike(4, 0), false);
        SharedPalimpsest y = two("ab", "ab");
        Check.same("by other authors", y.areAlike(0, 1), false);
        SharedPalimpsest z = letters(2);
        z.join(0);
        z.type(0, 2, 5, 1);
        z.type(0, 2, 4, 1);
        z.deliver(0, 1, 0);
        z.erase(0, 3, 1);
        Check.same("another letter by the same author", z.areAlike(0, 1), false);
        SharedPalimpsest v = new SharedPalimpsest();
        v.type(0, 0, 0, 1);
        v.type(0, 1, 5, 1);
        v.join(0);
        v.erase(0, 0, 1);
        v.type(0, 0, 1, 1);
        Check.same("another first letter", v.areAlike(0, 1), false);
    }
}
