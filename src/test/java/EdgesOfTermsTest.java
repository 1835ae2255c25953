/**
 * The boundary cases that the document's Terms name: each function is for the sentence that stands
 * above it.
 */
public final class EdgesOfTermsTest {
    private static final int BLANK = 26;

    public static void main(String[] arguments) {
        deeds();
        texts();
        sending();
        comingAndLeaving();
        carets();
        takingBack();
        refusedCallChangesNothing();
        Check.end("EdgesOfTermsTest");
    }

    private static void deeds() {
        sixWritersAtMost();
        presentTillItLeaves();
        numbersOfDeeds();
        stampWithoutAny();
        stampOfTheGreatest();
        stampOfEachKind();
        ownDeedsAtOnce();
        deedsInAll();
        lettersOfType();
        blankIsTheLastLetter();
        letterForEver();
        coveredCells();
        takenBackIsTheSameAuthors();
        inEffect();
        inEffectAsFarAsKnown();
    }

    private static void texts() {
        hangsOnTheOneAhead();
        hangingDirectlyOrByOthers();
        greatestStampFirst();
        sameStampGreatestAuthorFirst();
        visibleByItsType();
        visibleByErases();
        positionsBeginWithZero();
        markOfGreatestStamp();
        markOfGreatestAuthor();
        markAsFarAsKnown();
    }

    private static void sending() {
        channelEachWay();
        toTheEndOfAllChannels();
        cutOffOrNot();
        knownComesAgain();
        waitingComesAgain();
        waitsForAllAhead();
        earliestWaitingFirst();
        waitingComesAtOnce();
        versions();
    }

    private static void comingAndLeaving() {
        writerZeroAlone();
        joinsBehindAll();
        knowsInTheSameOrder();
        joinsWithEmptyHands();
        channelsAreGone();
    }

    private static void carets() {
        caretAtFirst();
        caretBehindHiddenCell();
        caretBehindType();
        caretBehindErase();
        caretBehindErasedFirstOne();
        otherDeedsLeaveIt();
        caretSeenOfTheGreatestNumber();
        caretSeenOfThatOne();
    }

    private static void takingBack() {
        eachComesToTheEndOfDone();
        undoneIsEmptyThen();
        eightAtTheMost();
        undoneGoesBackToTheEnd();
    }

    /** All writers that are PRESENT know the same then. */
    private static void meet(SharedPalimpsest x) {
        for (int from = 0; from < x.writers(); from++) {
            for (int to = 0; to < x.writers(); to++) {
                if (from != to && x.isPresent(from) && x.isPresent(to)) {
                    x.catchUp(from, to);
                }
            }
        }
    }

    /** A new object with more writers, which know nothing yet. */
    private static SharedPalimpsest writers(int many) {
        SharedPalimpsest x = new SharedPalimpsest();
        for (int i = 1; i < many; i++) {
            x.join(0);
        }
        return x;
    }

    // 1 DEEDS

    /** "At most 6 writers, numbered from 0 as they come". */
    private static void sixWritersAtMost() {
        SharedPalimpsest x = new SharedPalimpsest();
        for (int number = 1; number < 6; number++) {
            Check.same("the next number", x.join(number - 1), number);
        }
        Check.wrongState(x, "a seventh writer", () -> x.join(5));
        Check.same("six came", x.writers(), 6);
        SharedPalimpsest y = new SharedPalimpsest();
        for (int number = 1; number < 6; number++) {
            Check.same("the next number, though the last one left", y.join(0), number);
            y.leave(number);
        }
        Check.wrongState(y, "a seventh writer, though five left", () -> y.join(0));
    }

    /** "each is PRESENT from then till it leaves". */
    private static void presentTillItLeaves() {
        SharedPalimpsest x = new SharedPalimpsest();
        Check.same("ahead of join", x.isPresent(1), false);
        x.join(0);
        Check.same("from then", x.isPresent(1), true);
        x.leave(1);
        Check.same("till it leaves", x.isPresent(1), false);
        x.join(0);
        Check.same("for ever", x.isPresent(1), false);
    }

    /** "A DEED has an author and a NUMBER: 1, 2 and so on, as the author did it". */
    private static void numbersOfDeeds() {
        SharedPalimpsest x = writers(2);
        x.type(0, 0, 0, 3);
        x.type(0, 0, 0, 3);
        x.catchUp(0, 1);
        x.type(1, 0, 0, 3);
        x.erase(1, 0, 1);
        x.mark(1, 0, 1, 0, true);
        x.undo(1);
        x.redo(1);
        x.typeAtCaret(1, 0, 1);
        for (int number = 1; number <= 6; number++) {
            Check.same("the NUMBER of an author's deed", x.lose(1, 0, 0), number);
        }
        x.type(0, 0, 0, 1);
        for (int number = 1; number <= 3; number++) {
            Check.same("whatever others did", x.lose(0, 1, 0), number);
        }
    }

    /** "a STAMP, which is 1 more than the greatest STAMP ... (1 without any)". */
    private static void stampWithoutAny() {
        SharedPalimpsest x = writers(2);
        x.type(0, 0, 0, 1);
        Check.same("the first STAMP", x.stampAt(0, 0), 1);
        x.type(1, 0, 0, 1);
        Check.same("of one that knows no deed", x.stampAt(1, 0), 1);
        x.type(1, 0, 0, 1);
        Check.same("the next one", x.stampAt(1, 0), 2);
        x.join(1);
        x.type(2, 0, 0, 1);
        Check.same("of one that joined by a writer that knows", x.stampAt(2, 0), 3);
    }

    /** "the greatest STAMP of all deeds that its author knows ahead of it". */
    private static void stampOfTheGreatest() {
        SharedPalimpsest x = writers(2);
        x.type(1, 0, 0, 1);
        for (int i = 0; i < 5; i++) {
            x.type(0, 0, 0, 1);
        }
        x.deliver(1, 0, 0);
        x.type(0, 0, 0, 1);
        Check.same("not that of the last one it got to know", x.stampAt(0, 0), 6);
        x.deliver(0, 1, 4);
        x.type(1, 0, 0, 1);
        Check.same("not that of one that is WAITING", x.stampAt(1, 0), 2);
        x.deliver(0, 1, 0);
        x.deliver(0, 1, 0);
        x.deliver(0, 1, 0);
        x.type(1, 0, 0, 1);
        Check.same("not how many it knows, nor its own alone", x.stampAt(1, 0), 4);
    }

    /** "of all deeds": of each kind. */
    private static void stampOfEachKind() {
        SharedPalimpsest x = new SharedPalimpsest();
        x.type(0, 0, 0, 3);
        x.erase(0, 2, 1);
        x.type(0, 0, 0, 1);
        Check.same("behind an ERASE", x.stampAt(0, 0), 3);
        x.mark(0, 0, 1, 0, false);
        x.type(0, 0, 0, 1);
        Check.same("behind a MARK", x.stampAt(0, 0), 5);
        x.undo(0);
        x.type(0, 0, 0, 1);
        Check.same("behind an UNDO", x.stampAt(0, 0), 7);
        x.undo(0);
        x.redo(0);
        x.typeAtCaret(0, 0, 1);
        Check.same("behind a REDO", x.stampAt(0, 1), 10);
    }

    /** "An author knows its own deeds at once." */
    private static void ownDeedsAtOnce() {
        SharedPalimpsest x = writers(2);
        x.type(1, 0, 0, 4);
        x.typeAtCaret(1, 0, 1);
        x.erase(1, 0, 1);
        x.mark(1, 0, 1, 0, true);
        x.undo(1);
        x.redo(1);
        Check.same("its own", x.known(1), 6);
        Check.same("all by itself", x.knownOf(1, 1), 6);
        Check.same("another one does not", x.known(0), 0);
        Check.same("the text is there at once", x.length(1), 4);
    }

    /** "There are at most 120 deeds in all." */
    private static void deedsInAll() {
        Check.NumberCall[] calls = {
            (x, n) -> x.type(0, 0, 0, 1), (x, n) -> x.typeAtCaret(0, 0, 1),
            (x, n) -> x.erase(0, 0, 1), (x, n) -> x.mark(0, 0, 1, 0, true),
            (x, n) -> x.undo(0), (x, n) -> x.redo(0),
        };
        for (Check.NumberCall call : calls) {
            SharedPalimpsest x = withDeeds(119);
            Check.taken("the 120th deed", x, call, 0);
            Check.same("120 deeds", x.deeds(), 120);
            SharedPalimpsest y = withDeeds(120);
            Check.wrongState(y, "a 121st deed", () -> call.run(y, 0));
        }
        SharedPalimpsest x = withDeeds(120);
        Check.wrongState(x, "by another author", () -> x.type(1, 0, 0, 1));
        Check.same("another one joins all the same", x.join(0), 3);
        Check.wrongState(x, "by one that joins then", () -> x.type(3, 0, 0, 1));
        Check.same("moveCaret is no deed", x.moveCaret(0, 0), 6);
        Check.same("all can be known", x.catchUp(0, 1) + x.known(1), 120);
    }

    /** 40 deeds by writer 2, which left, 40 by 1, the others by 0, which has DONE and UNDONE. */
    private static SharedPalimpsest withDeeds(int many) {
        SharedPalimpsest x = writers(3);
        for (int i = 0; i < 40; i++) {
            x.type(2, 0, 0, 1);
            x.type(1, 0, 0, 1);
        }
        x.leave(2);
        x.type(0, 0, 0, 6);
        while (x.deeds() < many - 1) {
            x.mark(0, 0, 1, 0, true);
        }
        x.undo(0);
        return x;
    }

    /** "TYPE: 1 to 6 LETTERS, each 0 to 26". */
    private static void lettersOfType() {
        Check.range("type of many", () -> writers(1), (x, n) -> x.type(0, 0, 0, n), 1, 6);
        Check.range("typeAtCaret of many", () -> writers(1), (x, n) -> x.typeAtCaret(0, 0, n), 1, 6);
        Check.range("type of letter", () -> writers(1), (x, n) -> x.type(0, 0, n, 1), 0, 26);
        Check.range("typeAtCaret of letter", () -> writers(1),
                (x, n) -> x.typeAtCaret(0, n, 1), 0, 26);
        for (int many = 1; many <= 6; many++) {
            SharedPalimpsest x = new SharedPalimpsest();
            x.type(0, 0, 0, many);
            Check.same("so many cells", x.cellsOf(0), many);
            Check.same("the last letter", x.letterAt(0, many - 1), many - 1);
        }
    }

    /** "26 is a blank": a letter like the others, but for words(). */
    private static void blankIsTheLastLetter() {
        SharedPalimpsest x = new SharedPalimpsest();
        x.type(0, 0, BLANK, 1);
        Check.same("a cell of the text", x.length(0), 1);
        Check.same("a letter", x.letterAt(0, 0), BLANK);
        Check.same("it is found", x.find(0, BLANK, 0), 0);
        Check.same("no word", x.words(0), 0);
        x.type(0, 1, 25, 1);
        Check.same("25 is none", x.words(0), 1);
    }

    /** "Each of them makes a CELL, which has this letter for ever." */
    private static void letterForEver() {
        SharedPalimpsest x = new SharedPalimpsest();
        x.type(0, 0, 24, 6);
        x.erase(0, 1, 1);
        Check.same("hidden by an ERASE", x.cellAt(0, 1), -26);
        x.undo(0);
        Check.same("shown again", x.cellAt(0, 1), 25);
        x.undo(0);
        int[] due = {-25, -26, -27, -1, -2, -3};
        for (int place = 0; place < due.length; place++) {
            Check.same("hidden by an UNDO", x.cellAt(0, place), due[place]);
        }
        Check.same("the cells stay", x.cellsOf(0), 6);
    }

    /** "it covers 1 to 12 CELLS", "with a kind, 0 to 2, and on or off". */
    private static void coveredCells() {
        Check.Maker eighteen = () -> {
            SharedPalimpsest x = new SharedPalimpsest();
            x.type(0, 0, 0, 6);
            x.type(0, 6, 6, 6);
            x.type(0, 12, 12, 6);
            return x;
        };
        Check.range("erase of many", eighteen, (x, n) -> x.erase(0, 0, n), 1, 12);
        Check.range("mark of many", eighteen, (x, n) -> x.mark(0, 0, n, 0, true), 1, 12);
        Check.range("mark of kind", eighteen, (x, n) -> x.mark(0, 0, 1, n, true), 0, 2);
        Check.range("mark of kind, off", eighteen, (x, n) -> x.mark(0, 0, 1, n, false), 0, 2);
        for (int many = 1; many <= 12; many++) {
            SharedPalimpsest x = eighteen.make();
            Check.same("so many are hidden", x.erase(0, 3, many), 18 - many);
            Check.same("from the first one on", x.letterAt(0, 3), 3 + many);
            SharedPalimpsest y = eighteen.make();
            Check.same("so many are marked", y.mark(0, 3, many, 1, true), many);
            Check.same("not the one ahead", y.marksAt(0, 2), 0);
            Check.same("the first one", y.marksAt(0, 3), 2);
            Check.same("the last one", y.marksAt(0, 2 + many), 2);
            Check.same("not the one behind", y.marksAt(0, 3 + many), 0);
        }
    }

    /** "UNDO and REDO: of an earlier TYPE, ERASE or MARK of the same author." */
    private static void takenBackIsTheSameAuthors() {
        SharedPalimpsest x = writers(2);
        x.type(0, 0, 0, 3);
        meet(x);
        Check.wrongState(x, "nothing of its own", () -> x.undo(1));
        x.type(1, 3, 3, 1);
        x.erase(0, 0, 1);
        meet(x);
        Check.same("its own, though another one's came later", x.undo(1), 2);
        Check.sameText("its own", x, 1, "bc");
        Check.wrongState(x, "an UNDO is not undone", () -> x.undo(1));
        meet(x);
        Check.wrongState(x, "another one's UNDO is not redone", () -> x.redo(0));
        Check.same("the ERASE of 0", x.undo(0), 3);
    }

    /** "unless the one with the greatest NUMBER of all UNDOs and REDOs of it ... is an UNDO". */
    private static void inEffect() {
        SharedPalimpsest x = writers(2);
        x.type(0, 0, 0, 3);
        for (int i = 0; i < 3; i++) {
            Check.same("the greatest is an UNDO", x.undo(0), 0);
            Check.same("the greatest is a REDO", x.redo(0), 3);
        }
        for (int version = 0; version <= 7; version++) {
            Check.same("at its author", x.lengthIn(0, version), version % 2 * 3);
            Check.same("at another one", x.length(1), version % 2 * 3);
            if (version < 7) {
                x.deliver(0, 1, 0);
            }
        }
        SharedPalimpsest y = new SharedPalimpsest();
        y.type(0, 0, 0, 1);
        y.type(0, 1, 1, 1);
        y.undo(0);
        y.undo(0);
        y.redo(0);
        Check.sameText("of it, not of another one", y, 0, "a");
        y.undo(0);
        y.redo(0);
        y.redo(0);
        Check.sameText("both", y, 0, "ab");
    }

    /** "for a writer that knows it", "that this writer knows". */
    private static void inEffectAsFarAsKnown() {
        SharedPalimpsest x = writers(3);
        x.type(0, 0, 0, 3);
        x.undo(0);
        x.redo(0);
        x.deliver(0, 1, 0);
        x.deliver(0, 2, 0);
        x.deliver(0, 2, 0);
        Check.same("knows no UNDO", x.length(1), 3);
        Check.same("knows no REDO", x.length(2), 0);
        x.undo(0);
        x.deliver(0, 1, 2);
        Check.same("an UNDO that is WAITING", x.waiting(1), 1);
        Check.same("is not known", x.length(1), 3);
        x.lose(0, 1, 0);
        x.deliver(0, 1, 0);
        Check.same("a REDO that is WAITING", x.waiting(1), 2);
        x.catchUp(2, 1);
        Check.same("both are known", x.length(1), 0);
        Check.same("nothing waits", x.waiting(1), 0);
    }

    // 2 TEXTS

    /** "the first one of a TYPE on that behind which it is written, each other one on ..." */
    private static void hangsOnTheOneAhead() {
        SharedPalimpsest x = new SharedPalimpsest();
        x.type(0, 0, 0, 3);
        x.join(0);
        x.type(1, 2, 10, 2);
        x.type(0, 2, 20, 2);
        Check.sameText("kl behind b", x, 1, "abklc");
        Check.sameText("uv behind b", x, 0, "abuvc");
        meet(x);
        Check.sameText("both, at 0", x, 0, "abkluvc");
        x.type(0, 3, 25, 1);
        x.type(1, 5, 24, 1);
        meet(x);
        Check.sameText("z behind k, y behind u", x, 0, "abkzluyvc");
        Check.sameText("and at 1", x, 1, "abkzluyvc");
        x.type(1, 9, 3, 1);
        Check.sameText("behind the last one", x, 1, "abkzluyvcd");
        x.type(1, 0, 4, 1);
        Check.sameText("at the BEGINNING", x, 1, "eabkzluyvcd");
    }

    /** "ahead of all that come behind this one and do not hang on it, directly or by others". */
    private static void hangingDirectlyOrByOthers() {
        SharedPalimpsest x = new SharedPalimpsest();
        x.type(0, 0, 0, 2);
        x.join(0);
        x.join(0);
        x.type(1, 1, 10, 1);
        x.deliverAll(1, 2);
        x.type(2, 2, 20, 1);
        x.type(0, 1, 25, 1);
        x.deliverAll(2, 1);
        x.type(1, 3, 23, 1);
        Check.sameText("x hangs on u, u on k, k on a", x, 1, "akuxb");
        Check.sameText("z hangs on a", x, 0, "azb");
        meet(x);
        for (int writer = 0; writer < 3; writer++) {
            Check.sameText("all that hang on k ahead of z", x, writer, "akuxzb");
        }
    }

    /** "those that hang on the same one come by their STAMPS ..., the greatest first". */
    private static void greatestStampFirst() {
        SharedPalimpsest x = writers(2);
        x.type(0, 0, 0, 1);
        x.type(0, 0, 1, 1);
        x.type(1, 0, 2, 1);
        x.type(1, 1, 3, 1);
        Check.sameText("a with 1, b with 2", x, 0, "ba");
        Check.sameText("c with 1, d behind c", x, 1, "cd");
        meet(x);
        Check.sameText("d, with 2, comes with c", x, 0, "bcda");
        Check.sameText("and at 1", x, 1, "bcda");
        SharedPalimpsest y = new SharedPalimpsest();
        y.type(0, 0, 0, 2);
        y.join(0);
        y.type(1, 1, 10, 1);
        y.mark(0, 0, 1, 0, true);
        y.mark(0, 0, 1, 0, true);
        y.type(0, 1, 20, 1);
        meet(y);
        Check.sameText("u with 4, k with 2, b with 1", y, 0, "aukb");
        Check.sameText("whichever came first", y, 1, "aukb");
        y.type(1, 1, 24, 1);
        Check.sameText("the greatest by what is known", y, 1, "ayukb");
    }

    /** "the same STAMP by their authors, the greatest first, each with all that hangs on it". */
    private static void sameStampGreatestAuthorFirst() {
        SharedPalimpsest x = writers(6);
        for (int writer = 0; writer < 6; writer++) {
            x.type(writer, 0, 3 * writer, 3);
        }
        meet(x);
        for (int writer = 0; writer < 6; writer++) {
            Check.sameText("at the BEGINNING", x, writer, "pqrmnojklghidefabc");
        }
        x.type(0, 18, 20, 1);
        x.type(3, 18, 21, 1);
        x.type(1, 18, 22, 1);
        meet(x);
        Check.sameText("behind a cell", x, 5, "pqrmnojklghidefabcvwu");
    }

    /** "if its TYPE is IN EFFECT". */
    private static void visibleByItsType() {
        SharedPalimpsest x = new SharedPalimpsest();
        x.type(0, 0, 0, 3);
        x.join(0);
        x.type(1, 1, 10, 2);
        meet(x);
        Check.same("undone for its author", x.undo(0), 2);
        Check.sameText("what hangs on it stays", x, 0, "kl");
        Check.sameText("not yet for another one", x, 1, "aklbc");
        x.deliverAll(0, 1);
        Check.sameText("for both", x, 1, "kl");
        x.undo(1);
        Check.same("an empty text", x.length(1), 0);
        Check.same("all cells are there", x.cellsOf(1), 5);
        x.redo(0);
        x.deliverAll(0, 1);
        Check.sameText("at the same places", x, 1, "abc");
    }

    /** "and no ERASE that the writer knows, that covers it, is IN EFFECT". */
    private static void visibleByErases() {
        SharedPalimpsest x = new SharedPalimpsest();
        x.type(0, 0, 0, 3);
        x.join(0);
        x.erase(0, 1, 1);
        x.erase(1, 0, 2);
        Check.sameText("one ERASE", x, 0, "ac");
        meet(x);
        Check.sameText("both", x, 0, "c");
        x.undo(1);
        x.deliverAll(1, 0);
        Check.sameText("that of 0 alone", x, 0, "ac");
        x.undo(0);
        Check.sameText("none", x, 0, "abc");
        Check.sameText("none, as far as 1 knows", x, 1, "ac");
        x.undo(0);
        Check.same("the TYPE is undone", x.length(0), 0);
        x.redo(0);
        x.redo(0);
        Check.sameText("the TYPE and the ERASE are redone", x, 0, "ac");
        x.erase(0, 0, 2);
        x.deliver(0, 1, 5);
        Check.same("one that is WAITING hides nothing", x.length(1), 2);
    }

    /** "positions in it begin with 0". */
    private static void positionsBeginWithZero() {
        SharedPalimpsest x = new SharedPalimpsest();
        Check.wrongArgument(x, "no position 0 of an empty text", () -> x.letterAt(0, 0));
        x.type(0, 0, 0, 3);
        x.erase(0, 0, 1);
        Check.same("the first one that is VISIBLE", x.letterAt(0, 0), 1);
        Check.same("the last one", x.letterAt(0, 1), 2);
        Check.wrongArgument(x, "hidden ones have none", () -> x.letterAt(0, 2));
        Check.wrongArgument(x, "ahead of the first one", () -> x.letterAt(0, -1));
    }

    /** "the one with the greatest STAMP ... is one with on". */
    private static void markOfGreatestStamp() {
        SharedPalimpsest x = new SharedPalimpsest();
        x.type(0, 0, 0, 3);
        x.join(0);
        Check.same("without any", x.marksAt(0, 0), 0);
        x.mark(0, 0, 1, 1, false);
        Check.same("off alone", x.marksAt(0, 0), 0);
        x.mark(0, 0, 2, 1, true);
        Check.same("on behind off", x.marksAt(0, 0), 2);
        x.mark(0, 0, 1, 1, false);
        Check.same("off behind on", x.marksAt(0, 0), 0);
        Check.same("of those that cover it", x.marksAt(0, 1), 2);
        x.undo(0);
        Check.same("of those IN EFFECT", x.marksAt(0, 0), 2);
        x.redo(0);
        Check.same("IN EFFECT again", x.marksAt(0, 0), 0);
        x.mark(0, 0, 1, 0, true);
        x.mark(0, 0, 1, 2, true);
        Check.same("of that kind", x.marksAt(0, 0), 5);
        x.mark(1, 0, 3, 1, true);
        x.deliverAll(1, 0);
        Check.same("2 is not the greatest STAMP, though it came last", x.marksAt(0, 0), 5);
        Check.same("it is where no other one is", x.marksAt(0, 2), 2);
        x.erase(0, 2, 1);
        x.undo(0);
        Check.same("a mark stays on a cell that was hidden", x.marksAt(0, 2), 2);
    }

    /** "(with the greatest author of those)". */
    private static void markOfGreatestAuthor() {
        SharedPalimpsest x = new SharedPalimpsest();
        x.type(0, 0, 0, 4);
        for (int i = 0; i < 5; i++) {
            x.join(0);
        }
        for (int writer = 5; writer >= 0; writer--) {
            x.mark(writer, 0, 1, 0, writer == 5);
            x.mark(writer, 1, 1, 0, writer != 5);
        }
        meet(x);
        for (int writer = 0; writer < 6; writer++) {
            Check.same("5 did the one with on", x.marksAt(writer, 0), 1);
            Check.same("5 did the one with off", x.marksAt(writer, 1), 0);
        }
        x.undo(5);
        Check.same("without that of 5, 4 decides", x.marksAt(5, 1), 1);
        x.undo(5);
        Check.same("and with the other one", x.marksAt(5, 0), 0);
    }

    /** "of all MARKs of that kind that it knows". */
    private static void markAsFarAsKnown() {
        SharedPalimpsest x = new SharedPalimpsest();
        x.type(0, 0, 0, 2);
        x.join(0);
        x.mark(0, 0, 2, 0, true);
        x.mark(0, 0, 1, 0, false);
        x.deliver(0, 1, 1);
        Check.same("one that is WAITING", x.marksAt(1, 0), 0);
        x.join(1);
        Check.same("on is not known", x.marksAt(1, 1), 0);
        x.deliver(0, 1, 0);
        Check.same("both are known", x.marksAt(1, 0), 0);
        Check.same("on alone covers it", x.marksAt(1, 1), 1);
        Check.same("known elsewhere alone", x.marksAt(2, 1), 0);
    }

    // 3 SENDING

    /** "Between each two writers that are PRESENT there is a CHANNEL each way". */
    private static void channelEachWay() {
        SharedPalimpsest x = writers(3);
        for (int from = 0; from < 3; from++) {
            for (int to = 0; to < 3; to++) {
                int one = from;
                int other = to;
                if (from == to) {
                    Check.wrongArgument(x, "none to oneself", () -> x.inChannel(one, other));
                } else {
                    Check.same("empty at first", x.inChannel(from, to), 0);
                }
            }
        }
        x.type(1, 0, 0, 1);
        Check.same("one way", x.inChannel(1, 0), 1);
        Check.same("not the other way", x.inChannel(0, 1), 0);
        x.leave(2);
        Check.noWriter(x, "none to one that left", () -> x.inChannel(1, 2));
        Check.noWriter(x, "none from one that left", () -> x.inChannel(2, 1));
    }

    /** "puts it to the end of its channels to all others that are PRESENT". */
    private static void toTheEndOfAllChannels() {
        SharedPalimpsest x = writers(4);
        x.leave(2);
        x.cut(0, 1);
        x.type(0, 0, 0, 1);
        x.type(0, 0, 0, 1);
        x.repeat(0, 1, 0);
        x.type(0, 0, 0, 1);
        Check.same("CUT OFF, too", x.inChannel(0, 1), 4);
        Check.same("to the end", x.lose(0, 1, 3), 3);
        Check.same("what was put ahead of it", x.lose(0, 1, 2), 1);
        Check.same("to 3", x.inChannel(0, 3), 3);
        Check.same("between others nothing", x.inChannel(1, 3) + x.inChannel(3, 1), 0);
        x.join(0);
        Check.same("to none that comes later", x.inChannel(0, 4), 0);
        x.type(0, 0, 0, 1);
        Check.same("from then on", x.lose(0, 4, 0), 4);
        Check.same("nothing comes back", x.inChannel(3, 0), 0);
    }

    /** "Each two writers are CUT OFF from one another, or not (not, at first)." */
    private static void cutOffOrNot() {
        SharedPalimpsest x = writers(6);
        for (int one = 0; one < 6; one++) {
            for (int other = 0; other < 6; other++) {
                if (one != other) {
                    Check.same("not, at first", x.areCut(one, other), false);
                }
            }
        }
        x.cut(2, 4);
        for (int one = 0; one < 6; one++) {
            for (int other = 0; other < 6; other++) {
                if (one != other) {
                    Check.same("one pair alone", x.areCut(one, other), one + other == 6
                            && one != 1 && one != 5);
                }
            }
        }
    }

    /** "A deed that comes to a writer which knows it ... does nothing." */
    private static void knownComesAgain() {
        SharedPalimpsest x = writers(2);
        x.type(0, 0, 0, 2);
        x.type(0, 0, 5, 1);
        x.repeat(0, 1, 0);
        x.deliver(0, 1, 0);
        Check.same("it comes again", x.deliver(0, 1, 1), 0);
        Check.same("known once", x.known(1), 1);
        Check.same("not WAITING", x.waiting(1), 0);
        Check.same("it is out of the channel", x.inChannel(0, 1), 1);
        x.catchUp(0, 1);
        Check.same("known by another way", x.deliver(0, 1, 0), 0);
        Check.same("no more VERSIONS by it", x.known(1), 2);
        Check.same("its own deeds come to an author", x.catchUp(1, 0), 0);
        Check.same("which knows them", x.known(0), 2);
    }

    /** "or has it WAITING, does nothing": it keeps its place "(by when they came)". */
    private static void waitingComesAgain() {
        SharedPalimpsest x = writers(4);
        x.type(0, 0, 0, 1);
        x.catchUp(0, 1);
        x.catchUp(0, 2);
        x.type(1, 1, 10, 1);
        x.type(2, 1, 20, 1);
        x.repeat(1, 3, 0);
        x.deliver(1, 3, 0);
        x.deliver(2, 3, 0);
        Check.same("it comes again", x.deliver(1, 3, 0), 0);
        Check.same("WAITING once", x.waiting(3), 2);
        Check.same("all three", x.deliver(0, 3, 0), 3);
        Check.same("k came ahead of u", x.letterIn(3, 2, 1), 10);
        Check.same("u is the last one", x.lengthIn(3, 2) * 100 + x.letterIn(3, 3, 1), 220);
    }

    /** "if the writer knows all deeds that its author knew ahead of it". */
    private static void waitsForAllAhead() {
        SharedPalimpsest x = writers(4);
        x.type(0, 0, 0, 1);
        x.type(1, 0, 10, 1);
        x.deliverAll(0, 2);
        x.deliverAll(1, 2);
        x.type(2, 0, 20, 1);
        Check.same("nothing is known ahead", x.deliver(2, 3, 0), 0);
        Check.same("that of 1, without any ahead", x.deliver(1, 3, 0), 1);
        Check.same("one of two is known ahead", x.waiting(3), 1);
        Check.same("both are known ahead", x.deliver(0, 3, 0), 2);
        Check.same("it waits no more", x.waiting(3), 0);
        x.type(0, 0, 1, 1);
        x.type(0, 0, 2, 1);
        Check.same("the author's own ones, too", x.deliver(0, 3, 1), 0);
        Check.same("WAITING for one of the same author", x.waiting(3), 1);
        Check.same("what the author knows later is not ahead", x.catchUp(3, 0) > 0, true);
        Check.same("the one ahead of it", x.deliver(0, 3, 0), 2);
    }

    /** "one after the other, the earliest one (by when they came) ... for which this is so". */
    private static void earliestWaitingFirst() {
        SharedPalimpsest x = writers(4);
        x.type(0, 0, 2, 1);
        x.deliverAll(0, 1);
        x.deliverAll(0, 2);
        x.type(1, 1, 10, 1);
        x.type(1, 2, 11, 1);
        x.type(2, 1, 20, 1);
        Check.same("l needs k", x.deliver(1, 3, 1), 0);
        Check.same("k needs c", x.deliver(1, 3, 0), 0);
        Check.same("u needs c", x.deliver(2, 3, 0), 0);
        Check.same("c comes", x.deliver(0, 3, 0), 4);
        // k is the earliest one that can be known, then l, which came ahead of u.
        Check.same("then k", x.letterIn(3, 2, 1), 10);
        Check.same("then l, ahead of u", x.letterIn(3, 3, 2), 11);
        Check.same("u is not there yet", x.letterIn(3, 3, 1), 10);
        Check.same("then u", x.letterIn(3, 4, 1), 20);
        Check.same("till there is none", x.waiting(3), 0);
    }

    /** "Each time that a writer gets to know a deed": also in the midst of catchUp, deliverAll. */
    private static void waitingComesAtOnce() {
        for (boolean isCaughtUp : new boolean[] {true, false}) {
            SharedPalimpsest x = writers(4);
            x.type(0, 0, 0, 1);
            x.deliverAll(0, 2);
            x.type(2, 1, 20, 1);
            x.type(0, 1, 1, 1);
            x.deliver(2, 3, 0);
            Check.same("u is WAITING", x.waiting(3), 1);
            Check.same("three are known by it",
                    isCaughtUp ? x.catchUp(0, 3) : x.deliverAll(0, 3), 3);
            Check.same("u behind a at once", x.letterIn(3, 2, 1), 20);
            Check.same("b behind u", x.lengthIn(3, 2) * 10 + x.lengthIn(3, 3), 23);
        }
    }

    /** "Its VERSION v is its text as it was when it knew the first v of them." */
    private static void versions() {
        SharedPalimpsest x = writers(2);
        Check.same("VERSION 0", x.lengthIn(0, 0), 0);
        Check.wrongArgument(x, "VERSION 1 of none", () -> x.lengthIn(0, 1));
        x.type(0, 0, 0, 3);
        x.erase(0, 0, 1);
        x.type(1, 0, 10, 2);
        x.catchUp(0, 1);
        x.catchUp(1, 0);
        int[] ofZero = {0, 3, 2, 4};
        int[] ofOne = {0, 2, 5, 4};
        for (int version = 0; version < 4; version++) {
            Check.same("in the order of 0", x.lengthIn(0, version), ofZero[version]);
            Check.same("in the order of 1", x.lengthIn(1, version), ofOne[version]);
        }
        Check.same("a hidden letter was there", x.letterIn(0, 1, 0), 0);
        Check.same("and is there no more", x.letterIn(0, 2, 0), 1);
        Check.wrongArgument(x, "VERSION 4 of 3", () -> x.lengthIn(0, 4));
        Check.wrongArgument(x, "VERSION -1", () -> x.lengthIn(0, -1));
    }

    // 4 COMING AND LEAVING

    /** "At first there is writer 0 alone." */
    private static void writerZeroAlone() {
        SharedPalimpsest x = new SharedPalimpsest();
        for (int writer = -1; writer <= 6; writer++) {
            Check.same("PRESENT at first", x.isPresent(writer), writer == 0);
        }
        Check.wrongState(x, "alone", () -> x.leave(0));
        Check.noWriter(x, "no channel to anybody", () -> x.inChannel(0, 1));
    }

    /** "Who joins by another one gets the next number". */
    private static void joinsBehindAll() {
        SharedPalimpsest x = new SharedPalimpsest();
        Check.same("the first one that joins", x.join(0), 1);
        Check.same("by another one", x.join(1), 2);
        x.leave(1);
        Check.same("not that of one that left", x.join(2), 3);
        x.leave(3);
        Check.same("nor that of the last one", x.join(0), 4);
        x.leave(0);
        Check.same("nor 0", x.join(4), 5);
    }

    /** "it knows what that one knows, in the same order". */
    private static void knowsInTheSameOrder() {
        SharedPalimpsest x = writers(2);
        x.type(0, 0, 0, 3);
        x.type(1, 0, 10, 2);
        x.deliverAll(0, 1);
        x.join(0);
        x.join(1);
        Check.same("what 0 knows", x.knownOf(2, 0) * 10 + x.knownOf(2, 1), 10);
        Check.same("what 1 knows", x.knownOf(3, 0) * 10 + x.knownOf(3, 1), 11);
        Check.same("the first one that 1 knew", x.lengthIn(3, 1), 2);
        Check.same("then both", x.lengthIn(3, 2), 5);
        Check.same("at once", x.areAlike(1, 3) && !x.areAlike(0, 3), true);
        x.type(1, 0, 4, 1);
        Check.same("what that one does later comes late", x.known(3), 2);
        SharedPalimpsest y = new SharedPalimpsest();
        y.join(0);
        Check.same("nothing of one that knows nothing", y.known(1), 0);
    }

    /** "has nothing WAITING, its channels are empty, and it is CUT OFF from nobody". */
    private static void joinsWithEmptyHands() {
        SharedPalimpsest x = writers(3);
        x.type(0, 0, 0, 1);
        x.type(0, 0, 1, 1);
        x.deliver(0, 1, 1);
        x.type(1, 0, 10, 1);
        x.cut(1, 0);
        x.cut(1, 2);
        x.join(1);
        Check.same("1 has one WAITING", x.waiting(1), 1);
        Check.same("3 has nothing WAITING", x.waiting(3), 0);
        for (int other = 0; other < 3; other++) {
            Check.same("empty to it", x.inChannel(other, 3), 0);
            Check.same("empty from it", x.inChannel(3, other), 0);
            Check.same("CUT OFF from nobody", x.areCut(3, other), false);
        }
        Check.same("no caret, no deeds of its own", x.caret(3) + x.deedsOf(3), 0);
        Check.same("nothing to take back", x.undoable(3) + x.redoable(3), 0);
        Check.same("that of 0, ahead of the one WAITING at 1", x.catchUp(0, 3), 2);
    }

    /** "Who leaves is PRESENT no more: its channels, both ways, are gone." */
    private static void channelsAreGone() {
        SharedPalimpsest x = writers(4);
        x.type(0, 0, 0, 1);
        x.type(1, 0, 10, 1);
        x.type(1, 0, 11, 1);
        x.deliver(1, 2, 1);
        x.leave(1);
        Check.noWriter(x, "from it", () -> x.deliver(1, 0, 0));
        Check.noWriter(x, "to it", () -> x.lose(0, 1, 0));
        Check.same("those between others stay", x.inChannel(0, 2), 1);
        Check.same("what waits for its deeds goes on WAITING", x.waiting(2), 1);
        x.type(0, 0, 1, 1);
        Check.same("deeds go to the others", x.inChannel(0, 2) + x.inChannel(0, 3), 4);
        x.join(0);
        Check.same("who joins has empty channels", x.inChannel(0, 4) + x.inChannel(4, 0), 0);
        meet(x);
        Check.same("what it did is known to nobody", x.knownOf(0, 1) + x.knownOf(2, 1), 0);
        Check.same("all that are PRESENT know the same", x.agree(), true);
    }

    // 5 CARETS

    /** "behind a cell, or at the BEGINNING (at first; also of one that joins)". */
    private static void caretAtFirst() {
        SharedPalimpsest x = new SharedPalimpsest();
        Check.same("at first", x.caret(0), 0);
        x.type(0, 0, 0, 3);
        x.join(0);
        Check.same("of one that joins, in a text", x.caret(1), 0);
        x.typeAtCaret(1, 10, 1);
        Check.sameText("at the BEGINNING", x, 1, "kabc");
    }

    /** "how many cells of its text are ... up to this cell (itself counted, if it is VISIBLE)". */
    private static void caretBehindHiddenCell() {
        SharedPalimpsest x = new SharedPalimpsest();
        x.type(0, 0, 0, 4);
        x.join(0);
        x.moveCaret(1, 3);
        Check.same("itself counted", x.caret(1), 3);
        x.erase(0, 2, 1);
        x.deliverAll(0, 1);
        Check.same("itself hidden", x.caret(1), 2);
        x.erase(0, 0, 2);
        x.deliverAll(0, 1);
        Check.same("all ahead of it hidden", x.caret(1), 0);
        x.type(0, 0, 20, 2);
        x.deliverAll(0, 1);
        Check.same("what is put ahead of it counts", x.caret(1), 2);
        x.type(0, 3, 25, 1);
        x.deliverAll(0, 1);
        Check.same("what comes behind it does not", x.caret(1), 2);
        for (int i = 0; i < 4; i++) {
            x.undo(0);
        }
        x.deliverAll(0, 1);
        Check.same("shown again", x.caret(1), 3);
        x.undo(0);
        x.deliverAll(0, 1);
        Check.same("in an empty text", x.caret(1) + x.length(1), 0);
    }

    /** "Behind a TYPE the caret of its author is behind the last letter of it". */
    private static void caretBehindType() {
        SharedPalimpsest x = new SharedPalimpsest();
        x.type(0, 0, 0, 1);
        Check.same("behind one letter", x.caret(0), 1);
        x.type(0, 0, 0, 6);
        Check.same("behind six at the BEGINNING", x.caret(0), 6);
        x.type(0, 3, 0, 2);
        Check.same("behind two in the midst", x.caret(0), 5);
        x.join(0);
        x.moveCaret(1, 4);
        x.type(0, 9, 0, 1);
        x.deliverAll(0, 1);
        Check.same("at the end", x.caret(0), 10);
        Check.same("of its author alone", x.caret(1), 4);
    }

    /** "behind the cell of the text that was ahead of the first one that is covered". */
    private static void caretBehindErase() {
        SharedPalimpsest x = new SharedPalimpsest();
        x.type(0, 0, 0, 6);
        x.erase(0, 4, 2);
        Check.same("ahead of the last ones", x.caret(0), 4);
        x.erase(0, 1, 1);
        Check.same("in the midst", x.caret(0), 1);
        x.erase(0, 1, 2);
        Check.same("of the text, so not the hidden b", x.caret(0), 1);
        x.undo(0);
        x.undo(0);
        Check.sameText("b is shown again", x, 0, "abcd");
        Check.same("behind the a", x.caret(0), 1);
        x.typeAtCaret(0, 25, 1);
        Check.sameText("typed behind the a", x, 0, "azbcd");
    }

    /** "or at the BEGINNING, if that was the first of the text". */
    private static void caretBehindErasedFirstOne() {
        SharedPalimpsest x = new SharedPalimpsest();
        x.type(0, 0, 0, 4);
        x.erase(0, 0, 1);
        Check.same("of all cells the first one", x.caret(0), 0);
        x.erase(0, 0, 1);
        Check.same("of the text the first one", x.caret(0), 0);
        x.undo(0);
        x.undo(0);
        Check.same("at the BEGINNING, not behind the a", x.caret(0), 0);
        x.erase(0, 0, 4);
        Check.same("of a text that is empty then", x.caret(0), 0);
        x.typeAtCaret(0, 25, 1);
        Check.same("typed ahead of all cells", x.cellAt(0, 0), 25);
    }

    /** "other deeds leave it". */
    private static void otherDeedsLeaveIt() {
        SharedPalimpsest x = new SharedPalimpsest();
        x.type(0, 0, 0, 6);
        x.erase(0, 4, 1);
        x.moveCaret(0, 2);
        x.mark(0, 3, 2, 0, true);
        Check.same("a MARK", x.caret(0), 2);
        x.undo(0);
        Check.same("an UNDO of a MARK", x.caret(0), 2);
        x.undo(0);
        Check.same("an UNDO of an ERASE", x.caret(0), 2);
        x.redo(0);
        Check.same("a REDO of an ERASE", x.caret(0), 2);
        x.undo(0);
        x.undo(0);
        Check.same("an UNDO of the TYPE of its cell", x.caret(0), 0);
        x.redo(0);
        Check.same("a REDO of the TYPE of its cell", x.caret(0), 2);
    }

    /** "that which comes with the deed of that one with the greatest NUMBER that is known". */
    private static void caretSeenOfTheGreatestNumber() {
        SharedPalimpsest x = writers(3);
        Check.same("no deed is known", x.caretSeen(1, 0), -1);
        x.type(0, 0, 0, 6);
        x.erase(0, 3, 1);
        x.moveCaret(0, 1);
        x.mark(0, 4, 1, 0, true);
        x.moveCaret(0, 0);
        int[] due = {6, 3, 1};
        for (int number = 0; number < 3; number++) {
            x.deliver(0, 1, 0);
            Check.same("the one that comes with each", x.caretSeen(1, 0), due[number]);
        }
        Check.same("not the one that it has now", x.caret(0), 0);
        x.deliver(0, 2, 2);
        Check.same("a deed that is WAITING is not known", x.caretSeen(2, 0), -1);
        x.type(1, 0, 10, 2);
        Check.same("its own deeds are none of that one", x.caretSeen(1, 0), 3);
        x.leave(0);
        Check.same("of one that left, too", x.caretSeen(1, 0), 3);
    }

    /** "the deed of that one": not that of another one, though its NUMBER is greater. */
    private static void caretSeenOfThatOne() {
        SharedPalimpsest x = writers(3);
        x.type(0, 0, 0, 6);
        x.moveCaret(0, 2);
        x.mark(0, 0, 1, 0, true);
        x.catchUp(0, 1);
        x.catchUp(0, 2);
        for (int i = 0; i < 5; i++) {
            x.type(1, 6 + i, 10, 1);
        }
        Check.same("five of its own", x.caretSeen(1, 0), 2);
        x.deliverAll(1, 2);
        Check.same("five of another one", x.caretSeen(2, 0), 2);
        Check.same("that of the other one", x.caretSeen(2, 1), 11);
        x.type(2, 0, 20, 1);
        x.deliverAll(2, 1);
        Check.same("a lesser NUMBER that came later", x.caretSeen(1, 0), 3);
        Check.same("that NUMBER is 1", x.caretSeen(1, 2), 1);
    }

    // 6 TAKING BACK

    /** "Each one that it does comes to the end of DONE": "An UNDO is of the last one". */
    private static void eachComesToTheEndOfDone() {
        SharedPalimpsest x = new SharedPalimpsest();
        Check.same("DONE is empty at first", x.undoable(0), 0);
        x.type(0, 0, 0, 3);
        x.erase(0, 0, 1);
        x.mark(0, 0, 2, 2, true);
        x.typeAtCaret(0, 25, 1);
        Check.same("each one", x.undoable(0), 4);
        Check.same("the TYPE at last", x.undo(0), 2);
        Check.same("its mark is still there", x.marksAt(0, 0), 4);
        Check.same("the MARK", x.undo(0), 2);
        Check.same("its mark is gone", x.marksAt(0, 0), 0);
        Check.same("the ERASE", x.undo(0), 3);
        Check.same("the TYPE at first", x.undo(0), 0);
        Check.wrongState(x, "DONE is empty", () -> x.undo(0));
        Check.same("all are in UNDONE", x.redoable(0), 4);
    }

    /** "and UNDONE is empty then". */
    private static void undoneIsEmptyThen() {
        Check.NumberCall[] calls = {
            (x, n) -> x.type(0, 0, 0, 1), (x, n) -> x.typeAtCaret(0, 0, 1),
            (x, n) -> x.erase(0, 0, 1), (x, n) -> x.mark(0, 0, 1, 0, false),
        };
        for (Check.NumberCall call : calls) {
            SharedPalimpsest x = new SharedPalimpsest();
            x.type(0, 0, 0, 1);
            x.type(0, 0, 0, 1);
            x.type(0, 0, 0, 1);
            x.undo(0);
            x.undo(0);
            Check.same("two are in UNDONE", x.redoable(0), 2);
            call.run(x, 0);
            Check.same("UNDONE is empty", x.redoable(0), 0);
            Check.same("DONE has the first one and this one", x.undoable(0), 2);
            Check.wrongState(x, "nothing to redo", () -> x.redo(0));
        }
        SharedPalimpsest y = writers(2);
        y.type(0, 0, 0, 1);
        y.undo(0);
        y.moveCaret(0, 0);
        y.type(1, 0, 0, 1);
        y.deliverAll(1, 0);
        Check.same("by what it does itself alone", y.redoable(0), 1);
    }

    /** "If DONE has 9 by that, the first one leaves it: so it has 8 at the most." */
    private static void eightAtTheMost() {
        for (int many = 7; many <= 10; many++) {
            SharedPalimpsest x = new SharedPalimpsest();
            for (int i = 0; i < many; i++) {
                x.type(0, i, i, 1);
            }
            int most = Math.min(many, 8);
            Check.same("DONE behind " + many, x.undoable(0), most);
            for (int i = 0; i < most; i++) {
                x.undo(0);
            }
            Check.sameText("the first ones left it and stay IN EFFECT", x, 0,
                    "abcdefghij".substring(0, many - most));
            Check.same("UNDONE has them all", x.redoable(0), most);
            Check.wrongState(x, "no more", () -> x.undo(0));
            for (int i = 0; i < most; i++) {
                x.redo(0);
            }
            Check.same("DONE has them again", x.undoable(0), most);
            Check.same("all letters", x.length(0), many);
            Check.wrongState(x, "no more, either", () -> x.redo(0));
        }
    }

    /** "a REDO is of the last one of UNDONE, which goes to the end of DONE". */
    private static void undoneGoesBackToTheEnd() {
        SharedPalimpsest x = new SharedPalimpsest();
        x.type(0, 0, 0, 1);
        x.type(0, 1, 1, 1);
        x.type(0, 2, 2, 1);
        x.undo(0);
        x.undo(0);
        x.redo(0);
        Check.sameText("the last one that was undone", x, 0, "ab");
        Check.same("DONE and UNDONE", x.undoable(0) * 10 + x.redoable(0), 21);
        x.undo(0);
        Check.sameText("it is the last one of DONE", x, 0, "a");
        x.redo(0);
        x.redo(0);
        Check.sameText("the other one behind it", x, 0, "abc");
        x.undo(0);
        Check.sameText("the other one is the last one then", x, 0, "ab");
    }

    // the sentences behind them

    /** "A method that throws an exception changes nothing": no NUMBER and no STAMP is used up. */
    private static void refusedCallChangesNothing() {
        SharedPalimpsest x = writers(2);
        x.type(0, 0, 0, 3);
        x.moveCaret(0, 1);
        Check.wrongArgument(x, "type", () -> x.type(0, 4, 0, 1));
        Check.wrongArgument(x, "typeAtCaret", () -> x.typeAtCaret(0, 0, 7));
        Check.wrongArgument(x, "erase", () -> x.erase(0, 0, 4));
        Check.wrongArgument(x, "mark", () -> x.mark(0, 0, 1, 3, true));
        Check.wrongState(x, "redo", () -> x.redo(0));
        Check.wrongState(x, "undo", () -> x.undo(1));
        Check.wrongArgument(x, "moveCaret", () -> x.moveCaret(0, 4));
        Check.wrongArgument(x, "repeat", () -> x.repeat(0, 1, 1));
        Check.wrongArgument(x, "lose", () -> x.lose(0, 1, 1));
        Check.wrongArgument(x, "deliver", () -> x.deliver(0, 1, 1));
        x.cut(0, 1);
        Check.wrongState(x, "deliver, CUT OFF", () -> x.deliver(0, 1, 0));
        Check.wrongState(x, "deliverAll, CUT OFF", () -> x.deliverAll(0, 1));
        Check.wrongState(x, "catchUp, CUT OFF", () -> x.catchUp(0, 1));
        x.cut(0, 1);
        x.typeAtCaret(0, 25, 1);
        Check.sameText("the caret is where it was", x, 0, "azbc");
        Check.same("the next STAMP", x.stampAt(0, 1), 2);
        Check.same("the next NUMBER", x.lose(0, 1, 1), 2);
        Check.same("the first one is in the channel", x.deliver(0, 1, 0), 1);
        Check.same("and known, but for the next one", x.length(1), 3);
    }
}
