/**
 * The boundary cases that promises 1 to 16 name: what each argument may be at the least and at the
 * most, what each call returns there, and what it refuses.
 */
public final class EdgesOfCallsTest {
    private static final int GREATEST = Integer.MAX_VALUE;
    private static final int LEAST = Integer.MIN_VALUE;

    public static void main(String[] arguments) {
        promise1();
        promise2Position();
        promise2Letters();
        promise2Returns();
        promise3Caret();
        promise3Returns();
        promise4Position();
        promise4Returns();
        promise5Position();
        promise5Returns();
        promise6();
        promise7();
        promise8();
        promise9Place();
        promise9Returns();
        promise10();
        promise11();
        promise12Place();
        promise12Full();
        promise13();
        promise14();
        promise15();
        promise16();
        Check.end("EdgesOfCallsTest");
    }

    /** A new object with a text of so many letters by writer 0: a, b and so on to z, a blank, a. */
    private static SharedPalimpsest letters(int many) {
        SharedPalimpsest x = new SharedPalimpsest();
        for (int i = 0; i < many; i++) {
            x.type(0, i, i % 27, 1);
        }
        return x;
    }

    /** Writers 0 to 2; writer 0 did so many deeds that nobody else knows. */
    private static SharedPalimpsest sent(int many) {
        SharedPalimpsest x = new SharedPalimpsest();
        x.join(0);
        x.join(0);
        for (int i = 0; i < many; i++) {
            x.type(0, i, i % 27, 1);
        }
        return x;
    }

    private static SharedPalimpsest cutOff(SharedPalimpsest x) {
        x.cut(0, 1);
        return x;
    }

    /** "a text without letters, with writer 0 alone". */
    private static void promise1() {
        SharedPalimpsest x = new SharedPalimpsest();
        Check.same("without letters", x.length(0) + x.cellsOf(0) + x.deeds(), 0);
        Check.same("alone", x.writers(), 1);
        Check.noWriter(x, "no writer 1", () -> x.type(1, 0, 0, 1));
    }

    /** "position is not 0 to the length of its text". */
    private static void promise2Position() {
        Check.range("type, empty, at", () -> letters(0), (x, n) -> x.type(0, n, 0, 1), 0, 0);
        Check.range("type, one, at", () -> letters(1), (x, n) -> x.type(0, n, 0, 1), 0, 1);
        Check.range("type, thirty, at", () -> letters(30), (x, n) -> x.type(0, n, 0, 1), 0, 30);
        Check.Maker hidden = () -> {
            SharedPalimpsest x = letters(6);
            x.erase(0, 1, 4);
            return x;
        };
        Check.range("type, four hidden, at", hidden, (x, n) -> x.type(0, n, 0, 1), 0, 2);
        SharedPalimpsest x = hidden.make();
        x.type(0, 1, 25, 1);
        Check.same("behind the cell at 0, ahead of the hidden ones", x.cellAt(0, 1), 25);
        x.type(0, 3, 24, 1);
        Check.same("behind the last one", x.cellAt(0, 7), 24);
        x.type(0, 0, 23, 1);
        Check.same("at the BEGINNING", x.cellAt(0, 0), 23);
        SharedPalimpsest y = letters(2);
        y.erase(0, 0, 1);
        y.type(0, 0, 25, 1);
        Check.same("at the BEGINNING, ahead of a hidden one", y.cellAt(0, 0), 25);
    }

    /** "each 1 more than the one ahead of it (behind 26 comes 0)". */
    private static void promise2Letters() {
        for (int letter = 0; letter <= 26; letter++) {
            SharedPalimpsest x = new SharedPalimpsest();
            x.type(0, 0, letter, 6);
            for (int i = 0; i < 6; i++) {
                int due = letter + i <= 26 ? letter + i : letter + i - 27;
                Check.same("letter " + i + " from " + letter, x.letterAt(0, i), due);
            }
        }
        SharedPalimpsest x = letters(1);
        Check.range("letter of six", () -> letters(1), (y, n) -> y.type(0, 1, n, 6), 0, 26);
        Check.range("many from 26", () -> letters(1), (y, n) -> y.type(0, 1, 26, n), 1, 6);
        Check.wrongArgument(x, "both wrong", () -> x.type(0, 0, -1, 0));
        Check.wrongArgument(x, "all wrong", () -> x.type(0, 2, 27, 7));
    }

    /** "how long the writer's text is then". */
    private static void promise2Returns() {
        SharedPalimpsest x = new SharedPalimpsest();
        for (int i = 1; i <= 119; i++) {
            int most = x.length(0);
            Check.same("longer by six", x.type(0, i % 2 * most, i % 27, 6), 6 * i);
        }
        Check.same("the longest text", x.type(0, 357, 0, 6), 720);
        SharedPalimpsest y = letters(5);
        y.erase(0, 0, 5);
        Check.same("without what is hidden", y.type(0, 0, 0, 1), 1);
    }

    /** "behind the cell of the writer's caret, visible or not, or at the BEGINNING". */
    private static void promise3Caret() {
        SharedPalimpsest x = letters(4);
        x.join(0);
        x.moveCaret(1, 2);
        x.erase(0, 1, 1);
        x.deliverAll(0, 1);
        Check.same("behind the hidden b", x.typeAtCaret(1, 25, 1), 2);
        int[] due = {0, -2, 57, 2, 3};
        for (int place = 0; place < due.length; place++) {
            Check.same("not behind the a", x.cellAt(1, place), due[place]);
        }
        SharedPalimpsest y = letters(1);
        y.moveCaret(0, 0);
        Check.same("at the BEGINNING", y.typeAtCaret(0, 5, 1), 1);
        Check.sameText("at the BEGINNING", y, 0, "fa");
        y.undo(0);
        y.typeAtCaret(0, 6, 1);
        Check.same("behind one whose TYPE is undone", y.cellAt(0, 1), 6);
        Check.range("letter of six", () -> letters(1), (z, n) -> z.typeAtCaret(0, n, 6), 0, 26);
        Check.range("many from 26", () -> letters(1), (z, n) -> z.typeAtCaret(0, 26, n), 1, 6);
    }

    /** "the position of the caret then". */
    private static void promise3Returns() {
        for (int many = 1; many <= 6; many++) {
            SharedPalimpsest x = letters(3);
            x.moveCaret(0, 0);
            Check.same("from the BEGINNING", x.typeAtCaret(0, 0, many), many);
            x.moveCaret(0, x.length(0));
            Check.same("from the end", x.typeAtCaret(0, 0, many), 3 + 2 * many);
            x.moveCaret(0, 1);
            Check.same("from the midst", x.typeAtCaret(0, 0, many), 1 + many);
            Check.same("not the length", x.length(0), 3 + 3 * many);
        }
    }

    /** "position or position + many - 1 is no position of its text". */
    private static void promise4Position() {
        Check.range("erase one of 12 at", () -> letters(12), (x, n) -> x.erase(0, n, 1), 0, 11);
        Check.range("erase 12 of 14 at", () -> letters(14), (x, n) -> x.erase(0, n, 12), 0, 2);
        Check.range("erase 12 of 12 at", () -> letters(12), (x, n) -> x.erase(0, n, 12), 0, 0);
        Check.range("erase of many from 10 of 14", () -> letters(14),
                (x, n) -> x.erase(0, 10, n), 1, 4);
        SharedPalimpsest x = letters(14);
        for (int position : new int[] {GREATEST, GREATEST - 11, GREATEST - 10, LEAST, LEAST + 11}) {
            Check.wrongArgument(x, "a sum that wraps", () -> x.erase(0, position, 12));
        }
        Check.wrongArgument(x, "many that wraps", () -> x.erase(0, 1, GREATEST));
        Check.wrongArgument(x, "the least many", () -> x.erase(0, 0, LEAST));
        Check.wrongArgument(x, "only the first is none", () -> x.erase(0, -1, 2));
        Check.wrongArgument(x, "only the last is none", () -> x.erase(0, 13, 2));
        Check.wrongArgument(x, "none of no cells", () -> x.erase(0, 0, 0));
        x.erase(0, 0, 12);
        Check.wrongArgument(x, "hidden cells have no position", () -> x.erase(0, 1, 2));
        x.erase(0, 0, 2);
        Check.wrongArgument(x, "an empty text has none", () -> x.erase(0, 0, 1));
    }

    /** "how long the writer's text is then". */
    private static void promise4Returns() {
        SharedPalimpsest x = letters(13);
        x.join(0);
        Check.same("all but the last one", x.erase(0, 0, 12), 1);
        Check.same("the last one", x.erase(0, 0, 1), 0);
        Check.same("the first one at 1", x.erase(1, 0, 1), 12);
        x.deliverAll(1, 0);
        Check.same("hidden already", x.length(0), 0);
        Check.same("of the letters that are left", x.type(0, 0, 0, 2) * 10 + x.erase(0, 1, 1), 21);
    }

    /** "position or position + many - 1 is no position of its text, or kind is not 0 to 2". */
    private static void promise5Position() {
        Check.range("mark one of 12 at", () -> letters(12),
                (x, n) -> x.mark(0, n, 1, 0, true), 0, 11);
        Check.range("mark 12 of 14 at", () -> letters(14),
                (x, n) -> x.mark(0, n, 12, 0, false), 0, 2);
        Check.range("mark of many from 10 of 14", () -> letters(14),
                (x, n) -> x.mark(0, 10, n, 2, true), 1, 4);
        Check.range("mark 12 of kind", () -> letters(12),
                (x, n) -> x.mark(0, 0, 12, n, true), 0, 2);
        SharedPalimpsest x = letters(14);
        for (int position : new int[] {GREATEST, GREATEST - 11, GREATEST - 10, LEAST, LEAST + 11}) {
            Check.wrongArgument(x, "a sum that wraps", () -> x.mark(0, position, 12, 0, true));
        }
        Check.wrongArgument(x, "many that wraps", () -> x.mark(0, 1, GREATEST, 0, true));
        Check.wrongArgument(x, "only the last is none", () -> x.mark(0, 13, 2, 0, true));
        Check.wrongArgument(x, "none of no cells", () -> x.mark(0, 0, 0, 0, true));
        SharedPalimpsest y = new SharedPalimpsest();
        Check.wrongArgument(y, "an empty text has none", () -> y.mark(0, 0, 1, 0, true));
    }

    /** "how many cells of its text have a mark of this kind then". */
    private static void promise5Returns() {
        SharedPalimpsest x = letters(24);
        Check.same("none, by off", x.mark(0, 0, 12, 1, false), 0);
        Check.same("twelve", x.mark(0, 0, 12, 1, true), 12);
        Check.same("all", x.mark(0, 12, 12, 1, true), 24);
        Check.same("of this kind", x.mark(0, 0, 2, 0, true), 2);
        Check.same("those that have it already once", x.mark(0, 6, 12, 1, true), 24);
        x.erase(0, 0, 6);
        Check.same("of its text", x.mark(0, 0, 1, 1, true), 18);
        Check.same("off for the last one", x.mark(0, 17, 1, 1, false), 17);
        x.join(0);
        x.mark(1, 0, 12, 1, false);
        Check.same("of what the writer knows", x.mark(0, 0, 1, 1, true), 17);
    }

    /** "if its DONE is empty, or there are 120 deeds". */
    private static void promise6() {
        SharedPalimpsest x = letters(1);
        Check.same("to an empty text", x.undo(0), 0);
        Check.wrongState(x, "DONE is empty", () -> x.undo(0));
        SharedPalimpsest y = letters(119);
        Check.same("the 120th deed", y.undo(0), 118);
        Check.wrongState(y, "120 deeds, DONE is not empty", () -> y.undo(0));
        SharedPalimpsest z = letters(120);
        z.join(0);
        Check.wrongState(z, "120 deeds and DONE is empty", () -> z.undo(1));
        SharedPalimpsest v = letters(3);
        v.erase(0, 0, 3);
        Check.same("more letters than ahead of it", v.undo(0), 3);
    }

    /** "if its UNDONE is empty, or there are 120 deeds". */
    private static void promise7() {
        SharedPalimpsest x = letters(1);
        Check.wrongState(x, "UNDONE is empty", () -> x.redo(0));
        x.undo(0);
        Check.same("to a text", x.redo(0), 1);
        Check.wrongState(x, "UNDONE is empty again", () -> x.redo(0));
        SharedPalimpsest y = letters(117);
        y.undo(0);
        y.undo(0);
        Check.same("the 120th deed", y.redo(0), 116);
        Check.wrongState(y, "120 deeds, UNDONE is not empty", () -> y.redo(0));
        SharedPalimpsest z = letters(2);
        z.erase(0, 0, 2);
        z.undo(0);
        Check.same("to an empty text", z.redo(0), 0);
    }

    /** "position is not 0 to the length of its text"; "the position of the caret before". */
    private static void promise8() {
        Check.range("moveCaret, empty, to", () -> letters(0), (x, n) -> x.moveCaret(0, n), 0, 0);
        Check.range("moveCaret, five, to", () -> letters(5), (x, n) -> x.moveCaret(0, n), 0, 5);
        Check.range("moveCaret, 120 deeds, to", () -> letters(120),
                (x, n) -> x.moveCaret(0, n), 0, 120);
        SharedPalimpsest x = letters(5);
        Check.same("before", x.moveCaret(0, 0), 5);
        for (int position = 1; position <= 5; position++) {
            Check.same("before", x.moveCaret(0, position), position - 1);
        }
        Check.same("to where it is", x.moveCaret(0, 5), 5);
        x.erase(0, 0, 2);
        Check.same("at the BEGINNING before", x.moveCaret(0, 3), 0);
        Check.wrongArgument(x, "hidden cells do not count", () -> x.moveCaret(0, 4));
        Check.same("no deed", x.deeds(), 6);
        Check.same("UNDONE and DONE stay", x.undoable(0) * 10 + x.redoable(0), 60);
    }

    /** "which one of the channel, from 0"; "the channel has no such place". */
    private static void promise9Place() {
        Check.range("deliver", () -> sent(5), (x, n) -> x.deliver(0, 1, n), 0, 4);
        Check.range("deliver of one", () -> sent(1), (x, n) -> x.deliver(0, 1, n), 0, 0);
        SharedPalimpsest x = sent(3);
        for (int place : new int[] {-1, 0, 1, GREATEST, LEAST}) {
            Check.wrongArgument(x, "an empty channel", () -> x.deliver(1, 0, place));
            Check.wrongArgument(x, "to oneself", () -> x.deliver(0, 0, place));
        }
        x.deliver(0, 1, 1);
        Check.same("the others stay in their order", x.lose(0, 1, 1) * 10 + x.lose(0, 1, 0), 31);
        SharedPalimpsest y = cutOff(sent(3));
        for (int place = 0; place < 3; place++) {
            int each = place;
            Check.wrongState(y, "CUT OFF", () -> y.deliver(0, 1, each));
        }
        Check.wrongArgument(y, "no such place comes first", () -> y.deliver(0, 1, 3));
        Check.wrongArgument(y, "an empty channel comes first", () -> y.deliver(1, 0, 0));
        cutOff(y);
        Check.same("not CUT OFF any more", y.deliver(0, 1, 0), 1);
    }

    /** "how many deeds the other one got to know by it, those that were WAITING counted". */
    private static void promise9Returns() {
        SharedPalimpsest x = sent(60);
        for (int i = 0; i < 59; i++) {
            Check.same("none: it is WAITING", x.deliver(0, 1, x.inChannel(0, 1) - 1), 0);
        }
        Check.same("all of them", x.deliver(0, 1, 0), 60);
        Check.same("none is WAITING", x.waiting(1), 0);
        x.repeat(0, 2, 0);
        Check.same("one", x.deliver(0, 2, 0), 1);
        Check.same("none: it is known", x.deliver(0, 2, 59), 0);
    }

    /** "deed by deed from the first one on, till it is empty". */
    private static void promise10() {
        SharedPalimpsest x = sent(0);
        Check.same("empty already", x.deliverAll(0, 1), 0);
        SharedPalimpsest y = sent(120);
        for (int i = 0; i < 30; i++) {
            y.repeat(0, 1, 0);
        }
        Check.same("150 in it, 30 of them the same", y.deliverAll(0, 1), 120);
        Check.same("empty", y.inChannel(0, 1), 0);
        Check.same("the other one is full", y.inChannel(0, 2), 120);
        y.lose(0, 2, 0);
        Check.same("all are WAITING", y.deliverAll(0, 2) + y.waiting(2), 119);
        Check.same("empty, too", y.inChannel(0, 2), 0);
        SharedPalimpsest z = cutOff(sent(1));
        Check.wrongState(z, "CUT OFF", () -> z.deliverAll(0, 1));
        Check.wrongState(z, "CUT OFF, and empty", () -> z.deliverAll(1, 0));
        Check.wrongArgument(z, "both are the same", () -> z.deliverAll(1, 1));
        Check.same("CUT OFF from 1 alone", z.deliverAll(0, 2), 1);
    }

    /** "Takes a deed out of a channel; it comes to nobody."; "Returns its NUMBER." */
    private static void promise11() {
        Check.range("lose", () -> sent(5), (x, n) -> x.lose(0, 1, n), 0, 4);
        Check.range("lose, CUT OFF", () -> cutOff(sent(5)), (x, n) -> x.lose(0, 1, n), 0, 4);
        SharedPalimpsest x = sent(120);
        Check.same("the greatest NUMBER", x.lose(0, 1, 119), 120);
        for (int number = 1; number < 120; number++) {
            Check.same("each NUMBER", x.lose(0, 1, 0), number);
        }
        Check.wrongArgument(x, "an empty channel", () -> x.lose(0, 1, 0));
        Check.wrongArgument(x, "both are the same", () -> x.lose(1, 1, 0));
        Check.same("nobody knows it", x.known(1) + x.known(2) + x.waiting(1), 0);
        Check.same("its author does", x.known(0), 120);
    }

    /** "Puts a deed of a channel to its end once more (it stays where it is, too)." */
    private static void promise12Place() {
        Check.range("repeat", () -> sent(5), (x, n) -> x.repeat(0, 1, n), 0, 4);
        Check.range("repeat, CUT OFF", () -> cutOff(sent(5)), (x, n) -> x.repeat(0, 1, n), 0, 4);
        SharedPalimpsest x = sent(2);
        Check.wrongArgument(x, "an empty channel", () -> x.repeat(1, 0, 0));
        Check.wrongArgument(x, "both are the same", () -> x.repeat(1, 1, 0));
        Check.same("three then", x.repeat(0, 1, 0), 3);
        int[] due = {1, 2, 1};
        for (int number : due) {
            Check.same("the first one twice", x.lose(0, 1, 0), number);
        }
    }

    /** "if the channel has 150 or more". */
    private static void promise12Full() {
        SharedPalimpsest x = sent(1);
        for (int many = 2; many <= 150; many++) {
            Check.same("once more", x.repeat(0, 1, 0), many);
        }
        Check.wrongState(x, "150", () -> x.repeat(0, 1, 149));
        Check.wrongArgument(x, "150, and no such place", () -> x.repeat(0, 1, 150));
        Check.wrongArgument(x, "150, and place -1", () -> x.repeat(0, 1, -1));
        Check.same("of that channel alone", x.repeat(0, 2, 0), 2);
        x.type(0, 0, 0, 1);
        Check.same("a deed comes to it all the same", x.inChannel(0, 1), 151);
        Check.wrongState(x, "151", () -> x.repeat(0, 1, 0));
        x.lose(0, 1, 0);
        Check.wrongState(x, "150 again", () -> x.repeat(0, 1, 0));
        x.lose(0, 1, 0);
        Check.same("149", x.repeat(0, 1, 148), 150);
        Check.same("the one that was done last", x.lose(0, 1, 149) * 10 + x.lose(0, 1, 148), 22);
        while (x.deeds() < 120) {
            x.type(0, 0, 0, 1);
        }
        Check.same("148 and 118 more", x.inChannel(0, 1), 266);
        Check.same("the last one of them", x.lose(0, 1, 265), 120);
        Check.same("all but two come", x.deliverAll(0, 1), 1);
        Check.same("the others wait for the second one", x.waiting(1), 117);
    }

    /** "all deeds that this one knows come to it, in this one's order". */
    private static void promise13() {
        SharedPalimpsest x = sent(0);
        Check.same("of one that knows nothing", x.catchUp(0, 1), 0);
        SharedPalimpsest y = sent(120);
        Check.same("all deeds that there can be", y.catchUp(0, 1), 120);
        Check.same("none once more", y.catchUp(0, 1), 0);
        Check.same("none to the one that did them", y.catchUp(1, 0), 0);
        Check.same("the channel is left as it is", y.inChannel(0, 1), 120);
        y.deliver(0, 2, 119);
        Check.same("the one that is WAITING counted", y.catchUp(1, 2), 120);
        SharedPalimpsest z = cutOff(sent(2));
        Check.wrongState(z, "CUT OFF", () -> z.catchUp(0, 1));
        Check.wrongState(z, "CUT OFF, with nothing to bring", () -> z.catchUp(1, 0));
        Check.wrongArgument(z, "both are the same", () -> z.catchUp(0, 0));
        Check.same("by another one", z.catchUp(0, 2) * 10 + z.catchUp(2, 1), 22);
        SharedPalimpsest v = sent(1);
        v.type(1, 0, 10, 1);
        v.catchUp(1, 0);
        v.catchUp(0, 2);
        Check.same("in this one's order", v.letterIn(2, 1, 0), 0);
    }

    /** "Cuts two writers off from one another, or ends this, if they are CUT OFF." */
    private static void promise14() {
        SharedPalimpsest x = sent(0);
        for (int i = 0; i < 3; i++) {
            Check.same("CUT OFF then", x.cut(0, 1), true);
            Check.same("not then", x.cut(1, 0), false);
        }
        x.cut(1, 2);
        Check.wrongArgument(x, "both are the same", () -> x.cut(2, 2) ? 1 : 0);
        Check.same("still CUT OFF", x.areCut(2, 1), true);
    }

    /** "the number of the new writer"; "if there were 6 already". */
    private static void promise15() {
        SharedPalimpsest x = letters(120);
        for (int number = 1; number <= 5; number++) {
            Check.same("the number", x.join(0), number);
            Check.same("knows it all", x.known(number), 120);
        }
        for (int by = 0; by < 6; by++) {
            int each = by;
            Check.wrongState(x, "there were 6", () -> x.join(each));
        }
        for (int writer = 0; writer < 5; writer++) {
            x.leave(writer);
        }
        Check.wrongState(x, "there were 6, though one alone is there", () -> x.join(5));
        Check.noWriter(x, "by one that left comes first", () -> x.join(0));
    }

    /** "how many writers are PRESENT then"; "if it is the only one". */
    private static void promise16() {
        SharedPalimpsest x = new SharedPalimpsest();
        Check.wrongState(x, "the only one that came", () -> x.leave(0));
        for (int i = 0; i < 5; i++) {
            x.join(0);
        }
        for (int writer = 0; writer < 5; writer++) {
            Check.same("PRESENT then", x.leave(writer), 5 - writer);
        }
        Check.wrongState(x, "the only one that is left", () -> x.leave(5));
        Check.same("it goes on", x.type(5, 0, 0, 1), 1);
        Check.noWriter(x, "once more", () -> x.leave(4));
    }
}
