/**
 * A text that several writers write at once, each on a copy of their own.
 *
 * <p>Letters are never taken out, only hidden. All deeds and cells stand in one chronicle; a
 * writer's copy only says which deeds it knows, and its text is read from these anew when a call
 * asks for it. All rows are made once, with the object; no call makes another one.
 */
public final class SharedPalimpsest {
    private static final int MOST_WRITERS = 6;
    private static final int MOST_DEEDS = 120;
    private static final int MOST_TYPED = 6;
    private static final int MOST_COVERED = 12;
    private static final int MOST_CELLS = MOST_DEEDS * MOST_TYPED;
    private static final int MOST_DONE = 8;
    private static final int KINDS = 3;
    private static final int LETTERS = 27;
    private static final int BLANK = 26;
    private static final int FULL_CHANNEL = 150;
    /** A channel that was filled up by repeating still takes all the deeds of its writer. */
    private static final int CHANNEL_BOUND = FULL_CHANNEL + MOST_DEEDS;
    private static final int NONE = -1;
    private static final int BEGINNING = -1;
    private static final int AUTHOR_STEP = 32;
    private static final long DIGEST_START = 58011;
    private static final long DIGEST_FACTOR = 31;

    private final Chronicle chronicle = new Chronicle();
    private final Copy[] copies = new Copy[MOST_WRITERS];
    private final Row[] channels = new Row[MOST_WRITERS * MOST_WRITERS];
    private final Row noChannel = new Row(0);
    /** 1 for each pair of writers that are CUT OFF, at the place that pairPlace() tells. */
    private final Row cuts = new Row(MOST_WRITERS * MOST_WRITERS);
    private final Copy trial = new Copy();
    private final Row union = new Row(MOST_DEEDS);
    private final View firstView = new View();
    private final View secondView = new View();
    private final Row steps = new Row(MOST_CELLS + 1);
    private int came = 1;

    /** Creates a text without letters, with writer 0 alone. */
    public SharedPalimpsest() {
        for (int writer = 0; writer < copies.length; writer++) {
            Copy copy = new Copy();
            copy.isThere = writer == 0;
            copies[writer] = copy;
        }
        for (int place = 0; place < channels.length; place++) {
            channels[place] = new Row(CHANNEL_BOUND);
        }
        cuts.fill(MOST_WRITERS * MOST_WRITERS, 0);
    }

    // ---- deeds

    /**
     * Does a TYPE: letters that are each 1 more than the one ahead of it (behind 26 comes 0),
     * behind the cell ahead of a position of the writer's text.
     *
     * @return how long the writer's text is then
     */
    public int type(int writer, int position, int letter, int many)
            throws IndexOutOfBoundsException, IllegalArgumentException, IllegalStateException {
        Copy copy = presentCopy(writer);
        View view = see(copy);
        demandCaretPosition(view, position);
        demandLetters(letter, many);
        demandRoomForDeed();
        typeBehind(writer, copy, view.cellAhead(position), letter, many);
        return see(copy).text.size();
    }

    /**
     * Does a TYPE behind the cell of the writer's caret, visible or not, or at the BEGINNING, if
     * it is there.
     *
     * @return the position of the caret then
     */
    public int typeAtCaret(int writer, int letter, int many)
            throws IndexOutOfBoundsException, IllegalArgumentException, IllegalStateException {
        Copy copy = presentCopy(writer);
        demandLetters(letter, many);
        demandRoomForDeed();
        typeBehind(writer, copy, copy.caretCell, letter, many);
        return see(copy).positionOf(copy.caretCell);
    }

    /**
     * Does an ERASE of cells of the writer's text.
     *
     * @return how long the writer's text is then
     */
    public int erase(int writer, int position, int many)
            throws IndexOutOfBoundsException, IllegalArgumentException, IllegalStateException {
        Copy copy = presentCopy(writer);
        View view = see(copy);
        demandCovered(view, position, many);
        demandRoomForDeed();
        Deed deed = begin(writer, copy, What.ERASE);
        cover(deed, view, position, many);
        copy.caretCell = view.cellAhead(position);
        finish(deed, copy);
        copy.rememberOwn(deed.place);
        return see(copy).text.size();
    }

    /**
     * Does a MARK of cells of the writer's text.
     *
     * @return how many cells of its text have a mark of this kind then
     */
    public int mark(int writer, int position, int many, int kind, boolean isOn)
            throws IndexOutOfBoundsException, IllegalArgumentException, IllegalStateException {
        Copy copy = presentCopy(writer);
        View view = see(copy);
        demandCovered(view, position, many);
        if (kind < 0 || kind >= KINDS) {
            throw new IllegalArgumentException("no such kind of mark");
        }
        demandRoomForDeed();
        Deed deed = begin(writer, copy, What.MARK);
        cover(deed, view, position, many);
        deed.kind = kind;
        deed.isOn = isOn;
        finish(deed, copy);
        copy.rememberOwn(deed.place);
        return see(copy).countMarked(chronicle, kind);
    }

    /**
     * Does an UNDO.
     *
     * @return how long the writer's text is then
     */
    public int undo(int writer) throws IndexOutOfBoundsException, IllegalStateException {
        Copy copy = presentCopy(writer);
        if (copy.done.size() == 0) {
            throw new IllegalStateException("nothing to undo");
        }
        demandRoomForDeed();
        turn(writer, copy, What.UNDO);
        return see(copy).text.size();
    }

    /**
     * Does a REDO.
     *
     * @return how long the writer's text is then
     */
    public int redo(int writer) throws IndexOutOfBoundsException, IllegalStateException {
        Copy copy = presentCopy(writer);
        if (copy.undone.size() == 0) {
            throw new IllegalStateException("nothing to redo");
        }
        demandRoomForDeed();
        turn(writer, copy, What.REDO);
        return see(copy).text.size();
    }

    /**
     * Moves the writer's caret behind the cell ahead of a position of its text (no deed).
     *
     * @return the position of the caret before
     */
    public int moveCaret(int writer, int position)
            throws IndexOutOfBoundsException, IllegalArgumentException {
        Copy copy = presentCopy(writer);
        View view = see(copy);
        demandCaretPosition(view, position);
        int before = view.positionOf(copy.caretCell);
        copy.caretCell = view.cellAhead(position);
        return before;
    }

    // ---- sending, coming and leaving

    /**
     * Takes a deed out of the channel from one writer to another one; it comes to that one.
     *
     * @return how many deeds the other one got to know by it, those that were WAITING counted
     */
    public int deliver(int from, int to, int place)
            throws IndexOutOfBoundsException, IllegalArgumentException, IllegalStateException {
        presentCopy(from);
        Copy receiver = presentCopy(to);
        demandTwo(from, to);
        Row channel = channelOf(from, to);
        demandPlace(channel, place);
        demandJoined(from, to);
        return receiver.receive(chronicle, channel.removeAt(place));
    }

    /**
     * Delivers the channel from one writer to another one, deed by deed from the first one on,
     * till it is empty.
     *
     * @return how many deeds the other one got to know
     */
    public int deliverAll(int from, int to)
            throws IndexOutOfBoundsException, IllegalArgumentException, IllegalStateException {
        presentCopy(from);
        Copy receiver = presentCopy(to);
        demandTwo(from, to);
        demandJoined(from, to);
        Row channel = channelOf(from, to);
        int learned = receiver.receiveAll(chronicle, channel);
        channel.clear();
        return learned;
    }

    /**
     * Takes a deed out of a channel; it comes to nobody.
     *
     * @return its NUMBER
     */
    public int lose(int from, int to, int place)
            throws IndexOutOfBoundsException, IllegalArgumentException {
        presentCopy(from);
        presentCopy(to);
        demandTwo(from, to);
        Row channel = channelOf(from, to);
        demandPlace(channel, place);
        return chronicle.deedAt(channel.removeAt(place)).number;
    }

    /**
     * Puts a deed of a channel to its end once more (it stays where it is, too).
     *
     * @return how many deeds the channel has then
     */
    public int repeat(int from, int to, int place)
            throws IndexOutOfBoundsException, IllegalArgumentException, IllegalStateException {
        presentCopy(from);
        presentCopy(to);
        demandTwo(from, to);
        Row channel = channelOf(from, to);
        demandPlace(channel, place);
        if (channel.size() >= FULL_CHANNEL) {
            throw new IllegalStateException("the channel is full");
        }
        channel.add(channel.at(place));
        return channel.size();
    }

    /**
     * Lets a writer catch up with another one: all deeds that this one knows come to it, in this
     * one's order.
     *
     * @return how many deeds that one got to know
     */
    public int catchUp(int from, int to)
            throws IndexOutOfBoundsException, IllegalArgumentException, IllegalStateException {
        Copy sender = presentCopy(from);
        Copy receiver = presentCopy(to);
        demandTwo(from, to);
        demandJoined(from, to);
        return receiver.receiveAll(chronicle, sender.order);
    }

    /**
     * Cuts two writers off from one another, or ends this, if they are CUT OFF.
     *
     * @return whether they are CUT OFF then
     */
    public boolean cut(int one, int other)
            throws IndexOutOfBoundsException, IllegalArgumentException {
        presentCopy(one);
        presentCopy(other);
        demandTwo(one, other);
        boolean isCutNow = !isCutPair(one, other);
        cuts.put(pairPlace(one, other), isCutNow ? 1 : 0);
        return isCutNow;
    }

    /**
     * Lets a writer join, by one that is PRESENT.
     *
     * @return the number of the new writer
     */
    public int join(int by) throws IndexOutOfBoundsException, IllegalStateException {
        Copy sponsor = presentCopy(by);
        if (came < 0 || came >= copies.length) {
            throw new IllegalStateException("no more writers can come");
        }
        int number = came;
        Copy newcomer = copies[number];
        if (newcomer != null) {
            newcomer.takeOverKnowledge(sponsor);
            newcomer.isThere = true;
        }
        came++;
        return number;
    }

    /**
     * Lets a writer leave.
     *
     * @return how many writers are PRESENT then
     */
    public int leave(int writer) throws IndexOutOfBoundsException, IllegalStateException {
        Copy copy = presentCopy(writer);
        int present = countPresent();
        if (present <= 1) {
            throw new IllegalStateException("the only writer cannot leave");
        }
        copy.isThere = false;
        for (int other = 0; other < came; other++) {
            channelOf(writer, other).clear();
            channelOf(other, writer).clear();
        }
        return present - 1;
    }

    // ---- writers, asked

    /** Returns how many writers came, PRESENT or not. */
    public int writers() {
        return came;
    }

    /** Returns whether a writer with this number is PRESENT. */
    public boolean isPresent(int writer) {
        if (writer < 0 || writer >= copies.length) {
            return false;
        }
        Copy copy = copies[writer];
        return copy != null && copy.isThere;
    }

    /** Returns how many deeds were done in all. */
    public int deeds() {
        return chronicle.countDeeds();
    }

    /** Returns how many deeds this author did, PRESENT or not. */
    public int deedsOf(int author) throws IndexOutOfBoundsException {
        return copyThatCame(author).heard.at(author);
    }

    /** Returns how many deeds this writer knows. */
    public int known(int writer) throws IndexOutOfBoundsException {
        return presentCopy(writer).order.size();
    }

    /** Returns how many deeds of that author this writer knows. */
    public int knownOf(int writer, int author) throws IndexOutOfBoundsException {
        Copy copy = presentCopy(writer);
        copyThatCame(author);
        return copy.heard.at(author);
    }

    /** Returns how many deeds are WAITING there. */
    public int waiting(int writer) throws IndexOutOfBoundsException {
        return presentCopy(writer).waitingDeeds.size();
    }

    /** Returns how many deeds are in the channel from the one to the other one. */
    public int inChannel(int from, int to)
            throws IndexOutOfBoundsException, IllegalArgumentException {
        presentCopy(from);
        presentCopy(to);
        demandTwo(from, to);
        return channelOf(from, to).size();
    }

    /** Returns whether they are CUT OFF from one another. */
    public boolean areCut(int one, int other)
            throws IndexOutOfBoundsException, IllegalArgumentException {
        presentCopy(one);
        presentCopy(other);
        demandTwo(one, other);
        return isCutPair(one, other);
    }

    /** Returns how many deeds the first one knows and the other one does not. */
    public int missing(int one, int other) throws IndexOutOfBoundsException {
        Copy first = presentCopy(one);
        Copy second = presentCopy(other);
        return first.countBeyond(second);
    }

    /** Returns whether all that are PRESENT know the same deeds. */
    public boolean agree() {
        Copy first = null;
        for (Copy copy : copies) {
            if (copy == null || !copy.isThere) {
                continue;
            }
            if (first == null) {
                first = copy;
            }
            if (first.countBeyond(copy) != 0 || copy.countBeyond(first) != 0) {
                return false;
            }
        }
        return true;
    }

    /** Returns how many deeds this writer's DONE has. */
    public int undoable(int writer) throws IndexOutOfBoundsException {
        return presentCopy(writer).done.size();
    }

    /** Returns how many deeds this writer's UNDONE has. */
    public int redoable(int writer) throws IndexOutOfBoundsException {
        return presentCopy(writer).undone.size();
    }

    /** Returns the position of this writer's caret. */
    public int caret(int writer) throws IndexOutOfBoundsException {
        Copy copy = presentCopy(writer);
        return see(copy).positionOf(copy.caretCell);
    }

    /**
     * Returns the position of the caret that a writer SEES of the other one, in its own text; -1
     * if it knows no deed of that one, or both are the same.
     */
    public int caretSeen(int writer, int other) throws IndexOutOfBoundsException {
        Copy copy = presentCopy(writer);
        copyThatCame(other);
        return seenPosition(see(copy), writer, copy, other);
    }

    // ---- texts, asked

    /** Returns how long this writer's text is. */
    public int length(int writer) throws IndexOutOfBoundsException {
        return see(presentCopy(writer)).text.size();
    }

    /** Returns how many cells this writer knows, visible or not. */
    public int cellsOf(int writer) throws IndexOutOfBoundsException {
        return see(presentCopy(writer)).cells.size();
    }

    /** Returns the letter at a position of the text. */
    public int letterAt(int writer, int position)
            throws IndexOutOfBoundsException, IllegalArgumentException {
        View view = see(presentCopy(writer));
        return chronicle.letterOf(textCell(view, position));
    }

    /** Returns the author of the cell at a position of the text. */
    public int authorAt(int writer, int position)
            throws IndexOutOfBoundsException, IllegalArgumentException {
        View view = see(presentCopy(writer));
        return chronicle.typeOf(textCell(view, position)).author;
    }

    /** Returns the STAMP of the TYPE of the cell at a position of the text. */
    public int stampAt(int writer, int position)
            throws IndexOutOfBoundsException, IllegalArgumentException {
        View view = see(presentCopy(writer));
        return chronicle.typeOf(textCell(view, position)).stamp;
    }

    /** Returns 1, 2 and 4 for a mark of the kind 0, 1 and 2 of the cell there, added up. */
    public int marksAt(int writer, int position)
            throws IndexOutOfBoundsException, IllegalArgumentException {
        View view = see(presentCopy(writer));
        return view.marksOf(chronicle, textCell(view, position));
    }

    /**
     * Returns v, which is 32 times the author, and the letter, of the cell at a place among all
     * that the writer knows; if it is not VISIBLE, -1 - v.
     */
    public int cellAt(int writer, int place)
            throws IndexOutOfBoundsException, IllegalArgumentException {
        View view = see(presentCopy(writer));
        if (place < 0 || place >= view.cells.size()) {
            throw new IllegalArgumentException("no such place");
        }
        return describeCell(view, place);
    }

    /** Returns how long the text was in a VERSION. */
    public int lengthIn(int writer, int version)
            throws IndexOutOfBoundsException, IllegalArgumentException {
        return seeVersion(presentCopy(writer), version).text.size();
    }

    /** Returns the letter at a position of the text that a VERSION was. */
    public int letterIn(int writer, int version, int position)
            throws IndexOutOfBoundsException, IllegalArgumentException {
        View view = seeVersion(presentCopy(writer), version);
        return chronicle.letterOf(textCell(view, position));
    }

    /** Returns the first position of the text, from one on, at which this letter is; or -1. */
    public int find(int writer, int letter, int from)
            throws IndexOutOfBoundsException, IllegalArgumentException {
        Copy copy = presentCopy(writer);
        if (letter < 0 || letter >= LETTERS || from < 0) {
            throw new IllegalArgumentException("no such letter or position");
        }
        Row text = see(copy).text;
        for (int position = from; position < text.size(); position++) {
            if (chronicle.letterOf(text.at(position)) == letter) {
                return position;
            }
        }
        return NONE;
    }

    /** Returns how many words the text has: rows of letters but 26, as long as can be. */
    public int words(int writer) throws IndexOutOfBoundsException {
        return countWords(see(presentCopy(writer)).text);
    }

    /** Returns how many cells of the text, one behind another, are by this author, at most. */
    public int longestBy(int writer, int author) throws IndexOutOfBoundsException {
        Copy copy = presentCopy(writer);
        copyThatCame(author);
        Row text = see(copy).text;
        int longest = 0;
        int run = 0;
        for (int position = 0; position < text.size(); position++) {
            run = chronicle.typeOf(text.at(position)).author == author ? run + 1 : 0;
            longest = Math.max(longest, run);
        }
        return longest;
    }

    /** Returns the share of the cells of the text that are by this author; 0 of an empty text. */
    public double shareOf(int writer, int author) throws IndexOutOfBoundsException {
        Copy copy = presentCopy(writer);
        copyThatCame(author);
        Row text = see(copy).text;
        int own = 0;
        for (int position = 0; position < text.size(); position++) {
            if (chronicle.typeOf(text.at(position)).author == author) {
                own++;
            }
        }
        int whole = text.size();
        return whole == 0 ? 0.0 : (double) own / (double) whole;
    }

    /**
     * Returns how many letters must be put in, taken out or replaced, at the fewest, to make the
     * text of the first one that of the other one.
     */
    public int apart(int one, int other) throws IndexOutOfBoundsException {
        Copy first = presentCopy(one);
        Copy second = presentCopy(other);
        return countSteps(see(first).text, seeAsWell(second).text);
    }

    /** Returns whether both texts have the same letters by the same authors, marked the same. */
    public boolean areAlike(int one, int other) throws IndexOutOfBoundsException {
        Copy first = presentCopy(one);
        Copy second = presentCopy(other);
        return showTheSame(see(first), seeAsWell(second));
    }

    // ---- what would be (nothing is changed)

    /** Returns how long the text would be with all deeds known to anyone that is PRESENT. */
    public int lengthOfAll(int writer) throws IndexOutOfBoundsException {
        presentCopy(writer);
        return countLettersOfAll();
    }

    /** Returns how long the text would be behind an UNDO now; -1 if this writer's DONE is empty. */
    public int lengthUndone(int writer) throws IndexOutOfBoundsException {
        Copy copy = presentCopy(writer);
        if (copy.done.size() == 0) {
            return NONE;
        }
        int last = copy.done.at(copy.done.size() - 1);
        firstView.read(chronicle, copy.order, copy.order.size(), last);
        return firstView.text.size();
    }

    /** Returns how many deeds the first one would get to know by all of the other's channel. */
    public int wouldKnow(int writer, int from)
            throws IndexOutOfBoundsException, IllegalArgumentException {
        Copy copy = presentCopy(writer);
        presentCopy(from);
        demandTwo(writer, from);
        trial.takeOverKnowledge(copy);
        trial.waitingDeeds.copyFrom(copy.waitingDeeds);
        return trial.receiveAll(chronicle, channelOf(from, writer));
    }

    /** Returns how many things are not as they should be in what is kept: always 0. */
    public int flaws() {
        int flaws = chronicle.countFlaws();
        for (Copy copy : copies) {
            if (copy != null && copy.isThere) {
                flaws += copy.countFlaws(chronicle);
            }
        }
        return flaws;
    }

    /** Computes a checksum. */
    public long digest() {
        long sum = DIGEST_START;
        sum = mix(sum, came);
        sum = mix(sum, chronicle.countDeeds());
        sum = mix(sum, agree() ? 1 : 0);
        for (int writer = 0; writer < copies.length; writer++) {
            Copy copy = copies[writer];
            if (copy != null && copy.isThere) {
                sum = mixWriter(sum, writer, copy);
                sum = mixText(sum, writer, copy);
                sum = mixOthers(sum, writer, copy);
            }
        }
        return sum;
    }

    // What the calls above share: what they refuse.

    private Copy presentCopy(int writer) {
        Copy copy = copyThatCame(writer);
        if (!copy.isThere) {
            throw new IndexOutOfBoundsException("this writer is not present");
        }
        return copy;
    }

    private Copy copyThatCame(int writer) {
        if (writer < 0 || writer >= came || writer >= copies.length) {
            throw new IndexOutOfBoundsException("no such writer came");
        }
        Copy copy = copies[writer];
        if (copy == null) {
            throw new IndexOutOfBoundsException("no such writer came");
        }
        return copy;
    }

    private static void demandTwo(int one, int other) {
        if (one == other) {
            throw new IllegalArgumentException("both are the same writer");
        }
    }

    private static void demandPlace(Row channel, int place) {
        if (place < 0 || place >= channel.size()) {
            throw new IllegalArgumentException("the channel has no such place");
        }
    }

    private void demandJoined(int one, int other) {
        if (isCutPair(one, other)) {
            throw new IllegalStateException("both are cut off from one another");
        }
    }

    private void demandRoomForDeed() {
        if (chronicle.countDeeds() >= MOST_DEEDS) {
            throw new IllegalStateException("there are no more deeds");
        }
    }

    private static void demandCaretPosition(View view, int position) {
        if (position < 0 || position > view.text.size()) {
            throw new IllegalArgumentException("no such position");
        }
    }

    private static void demandLetters(int letter, int many) {
        if (letter < 0 || letter >= LETTERS || many < 1 || many > MOST_TYPED) {
            throw new IllegalArgumentException("no such letters");
        }
    }

    private static void demandCovered(View view, int position, int many) {
        if (many < 1 || many > MOST_COVERED) {
            throw new IllegalArgumentException("so many cells are not covered");
        }
        // Written as a difference, so that no position is so great that a sum would wrap round.
        if (position < 0 || position > view.text.size() - many) {
            throw new IllegalArgumentException("no such position");
        }
    }

    private static int textCell(View view, int position) {
        if (position < 0 || position >= view.text.size()) {
            throw new IllegalArgumentException("no such position");
        }
        return view.text.at(position);
    }

    // What the calls above share: how a deed is done.

    private Deed begin(int author, Copy copy, What what) {
        Deed deed = chronicle.open(what);
        deed.author = author;
        deed.number = copy.heard.at(author) + 1;
        deed.stamp = copy.greatestStamp(chronicle) + 1;
        deed.ahead.copyFrom(copy.heard);
        return deed;
    }

    private void finish(Deed deed, Copy copy) {
        deed.caretCell = copy.caretCell;
        copy.learn(deed);
        for (int other = 0; other < came; other++) {
            if (other != deed.author && isPresent(other)) {
                channelOf(deed.author, other).add(deed.place);
            }
        }
    }

    private void typeBehind(int writer, Copy copy, int cell, int letter, int many) {
        Deed deed = begin(writer, copy, What.TYPE);
        int last = cell;
        for (int i = 0; i < many; i++) {
            last = chronicle.addCell(deed, (letter + i) % LETTERS, last);
        }
        copy.caretCell = last;
        finish(deed, copy);
        copy.rememberOwn(deed.place);
    }

    private static void cover(Deed deed, View view, int position, int many) {
        for (int i = 0; i < many; i++) {
            deed.covered.add(view.text.at(position + i));
        }
    }

    private void turn(int writer, Copy copy, What what) {
        Row source = what == What.UNDO ? copy.done : copy.undone;
        Row goal = what == What.UNDO ? copy.undone : copy.done;
        int target = source.removeAt(source.size() - 1);
        goal.add(target);
        Deed deed = begin(writer, copy, what);
        deed.target = target;
        finish(deed, copy);
    }

    // What the calls above share: pairs of writers.

    private Row channelOf(int from, int to) {
        int place = from * MOST_WRITERS + to;
        if (place < 0 || place >= channels.length) {
            return noChannel;
        }
        Row channel = channels[place];
        return channel == null ? noChannel : channel;
    }

    private static int pairPlace(int one, int other) {
        return Math.min(one, other) * MOST_WRITERS + Math.max(one, other);
    }

    private boolean isCutPair(int one, int other) {
        return cuts.at(pairPlace(one, other)) == 1;
    }

    private int countPresent() {
        int present = 0;
        for (Copy copy : copies) {
            if (copy != null && copy.isThere) {
                present++;
            }
        }
        return present;
    }

    // What the calls above share: how a text is seen.

    private View see(Copy copy) {
        firstView.read(chronicle, copy.order, copy.order.size(), NONE);
        return firstView;
    }

    private View seeAsWell(Copy copy) {
        secondView.read(chronicle, copy.order, copy.order.size(), NONE);
        return secondView;
    }

    private View seeVersion(Copy copy, int version) {
        if (version < 0 || version > copy.order.size()) {
            throw new IllegalArgumentException("no such version");
        }
        firstView.read(chronicle, copy.order, version, NONE);
        return firstView;
    }

    private int countLettersOfAll() {
        union.clear();
        for (Copy copy : copies) {
            if (copy != null && copy.isThere) {
                union.addNew(copy.order);
            }
        }
        secondView.read(chronicle, union, union.size(), NONE);
        return secondView.text.size();
    }

    private int seenPosition(View view, int writer, Copy copy, int other) {
        if (writer == other || copy.heard.at(other) <= 0) {
            return NONE;
        }
        return view.positionOf(copy.latestOf(chronicle, other).caretCell);
    }

    private int describeCell(View view, int place) {
        int cell = view.cells.at(place);
        int value = AUTHOR_STEP * chronicle.typeOf(cell).author + chronicle.letterOf(cell);
        return view.isVisible(cell) ? value : -1 - value;
    }

    private int countWords(Row text) {
        int count = 0;
        boolean isInWord = false;
        for (int position = 0; position < text.size(); position++) {
            boolean isLetter = chronicle.letterOf(text.at(position)) != BLANK;
            if (isLetter && !isInWord) {
                count++;
            }
            isInWord = isLetter;
        }
        return count;
    }

    /** Keeps one row of the usual table: how far the first letters of both texts are apart. */
    private int countSteps(Row from, Row to) {
        steps.clear();
        for (int column = 0; column <= to.size(); column++) {
            steps.add(column);
        }
        for (int row = 1; row <= from.size(); row++) {
            int letter = chronicle.letterOf(from.at(row - 1));
            int diagonal = steps.at(0);
            steps.put(0, row);
            for (int column = 1; column <= to.size(); column++) {
                boolean isSame = chronicle.letterOf(to.at(column - 1)) == letter;
                int replaced = isSame ? diagonal : diagonal + 1;
                diagonal = steps.at(column);
                int other = 1 + Math.min(diagonal, steps.at(column - 1));
                steps.put(column, Math.min(replaced, other));
            }
        }
        return steps.at(to.size());
    }

    private boolean showTheSame(View one, View other) {
        if (one.text.size() != other.text.size()) {
            return false;
        }
        for (int position = 0; position < one.text.size(); position++) {
            int cell = one.text.at(position);
            int otherCell = other.text.at(position);
            if (chronicle.letterOf(cell) != chronicle.letterOf(otherCell)
                    || chronicle.typeOf(cell).author != chronicle.typeOf(otherCell).author
                    || one.marksOf(chronicle, cell) != other.marksOf(chronicle, otherCell)) {
                return false;
            }
        }
        return true;
    }

    // What the calls above share: the checksum.

    private static long mix(long sum, long number) {
        return sum * DIGEST_FACTOR + number;
    }

    private long mixWriter(long start, int writer, Copy copy) {
        View view = see(copy);
        long sum = mix(start, writer);
        sum = mix(sum, copy.order.size());
        for (int author = 0; author < came; author++) {
            sum = mix(sum, copy.heard.at(author));
        }
        sum = mix(sum, copy.waitingDeeds.size());
        sum = mix(sum, copy.done.size());
        sum = mix(sum, copy.undone.size());
        sum = mix(sum, view.positionOf(copy.caretCell));
        for (int other = 0; other < came; other++) {
            sum = mix(sum, seenPosition(view, writer, copy, other));
        }
        return sum;
    }

    private long mixText(long start, int writer, Copy copy) {
        View view = see(copy);
        long sum = mix(start, view.text.size());
        sum = mix(sum, countLettersOfAll());
        sum = mix(sum, countWords(view.text));
        sum = mix(sum, view.cells.size());
        for (int place = 0; place < view.cells.size(); place++) {
            sum = mix(sum, describeCell(view, place));
        }
        for (int position = 0; position < view.text.size(); position++) {
            sum = mix(sum, view.marksOf(chronicle, view.text.at(position)));
        }
        return sum;
    }

    private long mixOthers(long start, int writer, Copy copy) {
        long sum = start;
        for (int other = 0; other < copies.length; other++) {
            Copy otherCopy = copies[other];
            if (other == writer || otherCopy == null || !otherCopy.isThere) {
                continue;
            }
            sum = mix(sum, channelOf(writer, other).size());
            sum = mix(sum, isCutPair(writer, other) ? 1 : 0);
            sum = mix(sum, copy.countBeyond(otherCopy));
        }
        return sum;
    }

    /** What a deed is. */
    private enum What { TYPE, ERASE, MARK, UNDO, REDO }

    /**
     * A row of numbers with a bound. A place outside it reads as NONE, is not written, and what
     * would come beyond the bound is not taken, so that no use of it can fail.
     */
    private static final class Row {
        private final int[] held;
        private int size = 0;

        Row(int bound) {
            held = new int[Math.max(bound, 0)];
        }

        int size() {
            return size;
        }

        int at(int place) {
            return place >= 0 && place < size && place < held.length ? held[place] : NONE;
        }

        void put(int place, int number) {
            if (place >= 0 && place < size && place < held.length) {
                held[place] = number;
            }
        }

        void add(int number) {
            insert(size, number);
        }

        void insert(int place, int number) {
            if (size < 0 || size >= held.length || place < 0 || place > size) {
                return;
            }
            for (int i = size; i > place; i--) {
                held[i] = held[i - 1];
            }
            held[place] = number;
            size++;
        }

        int removeAt(int place) {
            if (place < 0 || place >= size || place >= held.length) {
                return NONE;
            }
            int number = held[place];
            for (int i = place; i + 1 < size && i + 1 < held.length; i++) {
                held[i] = held[i + 1];
            }
            size--;
            return number;
        }

        void clear() {
            size = 0;
        }

        void fill(int many, int number) {
            size = Math.max(0, Math.min(many, held.length));
            for (int place = 0; place < size && place < held.length; place++) {
                held[place] = number;
            }
        }

        void copyFrom(Row other) {
            clear();
            for (int place = 0; place < other.size(); place++) {
                add(other.at(place));
            }
        }

        void addNew(Row other) {
            for (int place = 0; place < other.size(); place++) {
                if (placeOf(other.at(place)) == NONE) {
                    add(other.at(place));
                }
            }
        }

        int placeOf(int number) {
            for (int place = 0; place < size && place < held.length; place++) {
                if (held[place] == number) {
                    return place;
                }
            }
            return NONE;
        }
    }

    /** A deed, as its author did it; it stays as it is for ever. */
    private static final class Deed {
        private final int place;
        private What what = What.TYPE;
        private int author = NONE;
        private int number = 0;
        private int stamp = 0;
        private int caretCell = BEGINNING;
        private int target = NONE;
        private int kind = 0;
        private boolean isOn = false;
        private final Row covered = new Row(MOST_COVERED);
        /** How many deeds of each author the author of this one knew ahead of it. */
        private final Row ahead = new Row(MOST_WRITERS);

        Deed(int place) {
            this.place = place;
        }

        /** The greater, the nearer to the cell on which it hangs; no two deeds have the same. */
        int rank() {
            return stamp * MOST_WRITERS + author;
        }
    }

    /** All deeds, in the order in which they were done, and all cells, in that of the text. */
    private static final class Chronicle {
        private final Deed[] all = new Deed[MOST_DEEDS];
        private final Deed noDeed = new Deed(NONE);
        private int count = 0;
        private final Row letterOfCell = new Row(MOST_CELLS);
        private final Row typeOfCell = new Row(MOST_CELLS);
        private final Row cellOrder = new Row(MOST_CELLS);

        Chronicle() {
            for (int place = 0; place < all.length; place++) {
                all[place] = new Deed(place);
            }
        }

        int countDeeds() {
            return count;
        }

        int countCells() {
            return letterOfCell.size();
        }

        Deed deedAt(int place) {
            if (place < 0 || place >= all.length) {
                return noDeed;
            }
            Deed deed = all[place];
            return deed == null ? noDeed : deed;
        }

        Deed open(What what) {
            Deed deed = deedAt(count);
            deed.what = what;
            count++;
            return deed;
        }

        int letterOf(int cell) {
            return letterOfCell.at(cell);
        }

        Deed typeOf(int cell) {
            return deedAt(typeOfCell.at(cell));
        }

        /**
         * Makes a cell. A cell's rank is never less than that of the one on which it hangs, so
         * those of a greater rank behind that one are the siblings that come first, with all that
         * hangs on these; and what comes behind all that hangs on that one is of a lesser rank.
         */
        int addCell(Deed type, int letter, int behind) {
            int cell = letterOfCell.size();
            letterOfCell.add(letter);
            typeOfCell.add(type.place);
            int place = behind == BEGINNING ? 0 : cellOrder.placeOf(behind) + 1;
            while (place < cellOrder.size() && typeOf(cellOrder.at(place)).rank() > type.rank()) {
                place++;
            }
            cellOrder.insert(place, cell);
            return cell;
        }

        int countFlaws() {
            int flaws = 0;
            for (int cell = 0; cell < countCells(); cell++) {
                if (cellOrder.placeOf(cell) == NONE) {
                    flaws++;
                }
            }
            return cellOrder.size() == countCells() ? flaws : flaws + 1;
        }
    }

    /** A writer's copy: what it knows, in its order, and what is its own. */
    private static final class Copy {
        private boolean isThere = false;
        private int caretCell = BEGINNING;
        private final Row order = new Row(MOST_DEEDS);
        /**
         * How many deeds of each author it knows. These are always the author's first ones, as
         * an author knows all its own ahead of each; so the numbers say which ones they are.
         */
        private final Row heard = new Row(MOST_WRITERS);
        private final Row waitingDeeds = new Row(MOST_DEEDS);
        /** One more than the most, for the moment until the first one leaves it. */
        private final Row done = new Row(MOST_DONE + 1);
        private final Row undone = new Row(MOST_DONE + 1);

        Copy() {
            heard.fill(MOST_WRITERS, 0);
        }

        void takeOverKnowledge(Copy other) {
            order.copyFrom(other.order);
            heard.copyFrom(other.heard);
        }

        boolean knows(Deed deed) {
            return heard.at(deed.author) >= deed.number;
        }

        boolean knowsAllAheadOf(Deed deed) {
            for (int author = 0; author < MOST_WRITERS; author++) {
                if (heard.at(author) < deed.ahead.at(author)) {
                    return false;
                }
            }
            return true;
        }

        int countBeyond(Copy other) {
            int beyond = 0;
            for (int author = 0; author < MOST_WRITERS; author++) {
                beyond += Math.max(0, heard.at(author) - other.heard.at(author));
            }
            return beyond;
        }

        int greatestStamp(Chronicle chronicle) {
            int greatest = 0;
            for (int place = 0; place < order.size(); place++) {
                greatest = Math.max(greatest, chronicle.deedAt(order.at(place)).stamp);
            }
            return greatest;
        }

        Deed latestOf(Chronicle chronicle, int author) {
            Deed latest = chronicle.noDeed;
            for (int place = 0; place < order.size(); place++) {
                Deed deed = chronicle.deedAt(order.at(place));
                if (deed.author == author && deed.number > latest.number) {
                    latest = deed;
                }
            }
            return latest;
        }

        void learn(Deed deed) {
            order.add(deed.place);
            heard.put(deed.author, deed.number);
        }

        void rememberOwn(int deed) {
            done.add(deed);
            if (done.size() > MOST_DONE) {
                done.removeAt(0);
            }
            undone.clear();
        }

        int receiveAll(Chronicle chronicle, Row deeds) {
            int learned = 0;
            for (int place = 0; place < deeds.size(); place++) {
                learned += receive(chronicle, deeds.at(place));
            }
            return learned;
        }

        int receive(Chronicle chronicle, int place) {
            Deed deed = chronicle.deedAt(place);
            if (knows(deed) || waitingDeeds.placeOf(place) != NONE) {
                return 0;
            }
            if (!knowsAllAheadOf(deed)) {
                waitingDeeds.add(place);
                return 0;
            }
            learn(deed);
            return 1 + learnWaiting(chronicle);
        }

        private int learnWaiting(Chronicle chronicle) {
            int most = waitingDeeds.size();
            for (int learned = 0; learned < most; learned++) {
                int earliest = earliestReady(chronicle);
                if (earliest == NONE) {
                    return learned;
                }
                learn(chronicle.deedAt(waitingDeeds.removeAt(earliest)));
            }
            return most;
        }

        private int earliestReady(Chronicle chronicle) {
            for (int place = 0; place < waitingDeeds.size(); place++) {
                if (knowsAllAheadOf(chronicle.deedAt(waitingDeeds.at(place)))) {
                    return place;
                }
            }
            return NONE;
        }

        int countFlaws(Chronicle chronicle) {
            int flaws = 0;
            int sum = 0;
            for (int author = 0; author < MOST_WRITERS; author++) {
                sum += heard.at(author);
            }
            if (sum != order.size() || done.size() + undone.size() > MOST_DONE) {
                flaws++;
            }
            for (int place = 0; place < waitingDeeds.size(); place++) {
                Deed deed = chronicle.deedAt(waitingDeeds.at(place));
                if (knows(deed) || knowsAllAheadOf(deed)) {
                    flaws++;
                }
            }
            return flaws;
        }
    }

    /** What a writer that knows some deeds sees: the cells and the text, with the marks. */
    private static final class View {
        private final Row cells = new Row(MOST_CELLS);
        private final Row text = new Row(MOST_CELLS);
        private final Row isKnown = new Row(MOST_DEEDS);
        private final Row isInEffect = new Row(MOST_DEEDS);
        private final Row isErased = new Row(MOST_CELLS);
        private final Row isShown = new Row(MOST_CELLS);
        /** For each cell, KINDS places: the MARK that decides about it. */
        private final Row decidingMark = new Row(MOST_CELLS * KINDS);

        /** Reads the first ones of a row of deeds, as if the deed takenBack were undone. */
        void read(Chronicle chronicle, Row deeds, int many, int takenBack) {
            isKnown.fill(chronicle.countDeeds(), 0);
            for (int place = 0; place < many; place++) {
                isKnown.put(deeds.at(place), 1);
            }
            weighEffects(chronicle);
            isInEffect.put(takenBack, 0);
            weighCovered(chronicle);
            gatherCells(chronicle);
        }

        /** The chronicle's order has each author's deeds by their NUMBERS: the last one counts. */
        private void weighEffects(Chronicle chronicle) {
            isInEffect.fill(chronicle.countDeeds(), 0);
            for (int place = 0; place < chronicle.countDeeds(); place++) {
                if (isKnown.at(place) != 1) {
                    continue;
                }
                Deed deed = chronicle.deedAt(place);
                if (deed.what == What.UNDO) {
                    isInEffect.put(deed.target, 0);
                } else if (deed.what == What.REDO) {
                    isInEffect.put(deed.target, 1);
                } else {
                    isInEffect.put(place, 1);
                }
            }
        }

        private void weighCovered(Chronicle chronicle) {
            isErased.fill(chronicle.countCells(), 0);
            decidingMark.fill(chronicle.countCells() * KINDS, NONE);
            for (int place = 0; place < chronicle.countDeeds(); place++) {
                Deed deed = chronicle.deedAt(place);
                for (int i = 0; isInEffect.at(place) == 1 && i < deed.covered.size(); i++) {
                    int cell = deed.covered.at(i);
                    if (deed.what == What.ERASE) {
                        isErased.put(cell, 1);
                    } else {
                        weighMark(chronicle, deed, cell * KINDS + deed.kind);
                    }
                }
            }
        }

        private void weighMark(Chronicle chronicle, Deed mark, int cellAndKind) {
            int rival = decidingMark.at(cellAndKind);
            if (rival == NONE || mark.rank() > chronicle.deedAt(rival).rank()) {
                decidingMark.put(cellAndKind, mark.place);
            }
        }

        private void gatherCells(Chronicle chronicle) {
            cells.clear();
            text.clear();
            isShown.fill(chronicle.countCells(), 0);
            for (int place = 0; place < chronicle.countCells(); place++) {
                int cell = chronicle.cellOrder.at(place);
                int type = chronicle.typeOf(cell).place;
                if (isKnown.at(type) != 1) {
                    continue;
                }
                cells.add(cell);
                if (isInEffect.at(type) == 1 && isErased.at(cell) != 1) {
                    isShown.put(cell, 1);
                    text.add(cell);
                }
            }
        }

        boolean isVisible(int cell) {
            return isShown.at(cell) == 1;
        }

        int cellAhead(int position) {
            return position <= 0 ? BEGINNING : text.at(position - 1);
        }

        /** The position of a caret behind this cell. */
        int positionOf(int cell) {
            if (cell == BEGINNING) {
                return 0;
            }
            int position = 0;
            for (int place = 0; place < cells.size(); place++) {
                if (isVisible(cells.at(place))) {
                    position++;
                }
                if (cells.at(place) == cell) {
                    return position;
                }
            }
            return position;
        }

        boolean isMarked(Chronicle chronicle, int cell, int kind) {
            return chronicle.deedAt(decidingMark.at(cell * KINDS + kind)).isOn;
        }

        int marksOf(Chronicle chronicle, int cell) {
            int marks = 0;
            for (int kind = 0; kind < KINDS; kind++) {
                if (isMarked(chronicle, cell, kind)) {
                    marks += 1 << kind;
                }
            }
            return marks;
        }

        int countMarked(Chronicle chronicle, int kind) {
            int count = 0;
            for (int position = 0; position < text.size(); position++) {
                if (isMarked(chronicle, text.at(position), kind)) {
                    count++;
                }
            }
            return count;
        }
    }
}
