import java.util.ArrayList;
import java.util.Collection;
import java.util.Comparator;
import java.util.HashMap;
import java.util.HashSet;
import java.util.LinkedHashSet;
import java.util.List;
import java.util.Map;
import java.util.Set;

/**
 * The document word by word, with sets, trees and recursion and no thought of speed or room: what
 * SharedPalimpsest answers is compared with it. It shares no code and no way of keeping things
 * with the class: what an author knew is a set of deeds, and the order is a walk of the tree.
 */
final class PlainModel {
    static final class Deed {
        int author;
        int number;
        int stamp;
        String what;
        Set<Deed> ahead;
        Cell caret;
        final List<Cell> typed = new ArrayList<>();
        final List<Cell> covered = new ArrayList<>();
        int kind;
        boolean isOn;
        Deed of;
    }

    static final class Cell {
        Deed type;
        int letter;
        Cell hangsOn;
    }

    static final class Writer {
        int number;
        boolean isPresent = true;
        List<Deed> known = new ArrayList<>();
        final List<Deed> waiting = new ArrayList<>();
        final List<Deed> done = new ArrayList<>();
        final List<Deed> undone = new ArrayList<>();
        Cell caret;
    }

    private final List<Writer> writers = new ArrayList<>();
    private final List<Deed> deeds = new ArrayList<>();
    private final Map<Integer, List<Deed>> channels = new HashMap<>();
    private final Set<Set<Integer>> cuts = new HashSet<>();

    PlainModel() {
        writers.add(new Writer());
    }

    // what is refused

    private Writer present(int writer) {
        if (!isPresent(writer)) {
            throw new IndexOutOfBoundsException();
        }
        return writers.get(writer);
    }

    private void came(int author) {
        if (author < 0 || author >= writers.size()) {
            throw new IndexOutOfBoundsException();
        }
    }

    private static void argument(boolean isRight) {
        if (!isRight) {
            throw new IllegalArgumentException();
        }
    }

    private static void state(boolean isRight) {
        if (!isRight) {
            throw new IllegalStateException();
        }
    }

    // the terms

    private static boolean inEffect(Collection<Deed> known, Deed deed) {
        if (!known.contains(deed)) {
            return false;
        }
        Deed last = null;
        for (Deed other : known) {
            if (other.of == deed && (last == null || other.number > last.number)) {
                last = other;
            }
        }
        return last == null || last.what.equals("REDO");
    }

    private static List<Cell> cells(Collection<Deed> known) {
        List<Cell> order = new ArrayList<>();
        walk(known, null, order);
        return order;
    }

    private static void walk(Collection<Deed> known, Cell hook, List<Cell> order) {
        List<Cell> hanging = new ArrayList<>();
        for (Deed deed : known) {
            for (Cell cell : deed.typed) {
                if (cell.hangsOn == hook) {
                    hanging.add(cell);
                }
            }
        }
        hanging.sort(Comparator.<Cell>comparingInt(c -> -c.type.stamp)
                .thenComparingInt(c -> -c.type.author));
        for (Cell cell : hanging) {
            order.add(cell);
            walk(known, cell, order);
        }
    }

    private static Set<Cell> hidden(Collection<Deed> known) {
        Set<Cell> hidden = new HashSet<>();
        for (Deed deed : known) {
            if (deed.what.equals("TYPE") && !inEffect(known, deed)) {
                hidden.addAll(deed.typed);
            }
            if (deed.what.equals("ERASE") && inEffect(known, deed)) {
                hidden.addAll(deed.covered);
            }
        }
        return hidden;
    }

    private static List<Cell> text(Collection<Deed> known) {
        List<Cell> text = cells(known);
        text.removeAll(hidden(known));
        return text;
    }

    private static boolean hasMark(Collection<Deed> known, Cell cell, int kind) {
        Deed greatest = null;
        for (Deed deed : known) {
            if (deed.what.equals("MARK") && deed.kind == kind && deed.covered.contains(cell)
                    && inEffect(known, deed)
                    && (greatest == null || deed.stamp > greatest.stamp
                    || deed.stamp == greatest.stamp && deed.author > greatest.author)) {
                greatest = deed;
            }
        }
        return greatest != null && greatest.isOn;
    }

    private static int marks(Collection<Deed> known, Cell cell) {
        return (hasMark(known, cell, 0) ? 1 : 0) + (hasMark(known, cell, 1) ? 2 : 0)
                + (hasMark(known, cell, 2) ? 4 : 0);
    }

    private static int caretPosition(Collection<Deed> known, Cell caret) {
        if (caret == null) {
            return 0;
        }
        List<Cell> order = cells(known);
        List<Cell> upTo = new ArrayList<>(order.subList(0, order.indexOf(caret) + 1));
        upTo.removeAll(hidden(known));
        return upTo.size();
    }

    private List<Deed> channel(int from, int to) {
        return channels.computeIfAbsent(from * 10 + to, k -> new ArrayList<>());
    }

    private static void come(Writer to, Deed deed) {
        if (to.known.contains(deed) || to.waiting.contains(deed)) {
            return;
        }
        if (!to.known.containsAll(deed.ahead)) {
            to.waiting.add(deed);
            return;
        }
        to.known.add(deed);
        boolean isFound = true;
        while (isFound) {
            isFound = false;
            for (Deed waiting : to.waiting) {
                if (to.known.containsAll(waiting.ahead)) {
                    to.waiting.remove(waiting);
                    to.known.add(waiting);
                    isFound = true;
                    break;
                }
            }
        }
    }

    private Deed deed(Writer author, String what) {
        Deed deed = new Deed();
        deed.author = author.number;
        deed.number = deedsOf(author.number) + 1;
        deed.stamp = 1;
        for (Deed other : author.known) {
            deed.stamp = Math.max(deed.stamp, other.stamp + 1);
        }
        deed.what = what;
        deed.ahead = new HashSet<>(author.known);
        return deed;
    }

    private void finish(Writer author, Deed deed) {
        deed.caret = author.caret;
        author.known.add(deed);
        deeds.add(deed);
        for (Writer other : writers) {
            if (other != author && other.isPresent) {
                channel(author.number, other.number).add(deed);
            }
        }
        if (deed.of == null) {
            author.done.add(deed);
            if (author.done.size() == 9) {
                author.done.remove(0);
            }
            author.undone.clear();
        }
    }

    private void typeBehind(Writer author, Cell hook, int letter, int many) {
        Deed deed = deed(author, "TYPE");
        Cell last = hook;
        for (int i = 0; i < many; i++) {
            Cell cell = new Cell();
            cell.type = deed;
            cell.letter = letter;
            cell.hangsOn = last;
            deed.typed.add(cell);
            last = cell;
            letter = letter == 26 ? 0 : letter + 1;
        }
        author.caret = last;
        finish(author, deed);
    }

    private static Cell ahead(List<Cell> text, int position) {
        return position == 0 ? null : text.get(position - 1);
    }

    // ---- deeds

    public int type(int writer, int position, int letter, int many) {
        Writer author = present(writer);
        List<Cell> text = text(author.known);
        argument(position >= 0 && position <= text.size() && letter >= 0 && letter <= 26
                && many >= 1 && many <= 6);
        state(deeds.size() < 120);
        typeBehind(author, ahead(text, position), letter, many);
        return length(writer);
    }

    public int typeAtCaret(int writer, int letter, int many) {
        Writer author = present(writer);
        argument(letter >= 0 && letter <= 26 && many >= 1 && many <= 6);
        state(deeds.size() < 120);
        typeBehind(author, author.caret, letter, many);
        return caret(writer);
    }

    private static List<Cell> covered(Writer author, int position, int many) {
        argument(many >= 1 && many <= 12);
        List<Cell> text = text(author.known);
        argument(position >= 0 && position < text.size());
        argument(position + many - 1 < text.size());
        return text.subList(position, position + many);
    }

    public int erase(int writer, int position, int many) {
        Writer author = present(writer);
        List<Cell> covered = covered(author, position, many);
        state(deeds.size() < 120);
        Deed deed = deed(author, "ERASE");
        deed.covered.addAll(covered);
        author.caret = ahead(text(author.known), position);
        finish(author, deed);
        return length(writer);
    }

    public int mark(int writer, int position, int many, int kind, boolean isOn) {
        Writer author = present(writer);
        List<Cell> covered = covered(author, position, many);
        argument(kind >= 0 && kind <= 2);
        state(deeds.size() < 120);
        Deed deed = deed(author, "MARK");
        deed.covered.addAll(covered);
        deed.kind = kind;
        deed.isOn = isOn;
        finish(author, deed);
        int count = 0;
        for (Cell cell : text(author.known)) {
            count += hasMark(author.known, cell, kind) ? 1 : 0;
        }
        return count;
    }

    public int undo(int writer) {
        Writer author = present(writer);
        state(!author.done.isEmpty() && deeds.size() < 120);
        Deed deed = deed(author, "UNDO");
        deed.of = author.done.remove(author.done.size() - 1);
        author.undone.add(deed.of);
        finish(author, deed);
        return length(writer);
    }

    public int redo(int writer) {
        Writer author = present(writer);
        state(!author.undone.isEmpty() && deeds.size() < 120);
        Deed deed = deed(author, "REDO");
        deed.of = author.undone.remove(author.undone.size() - 1);
        author.done.add(deed.of);
        finish(author, deed);
        return length(writer);
    }

    public int moveCaret(int writer, int position) {
        Writer author = present(writer);
        List<Cell> text = text(author.known);
        argument(position >= 0 && position <= text.size());
        int before = caret(writer);
        author.caret = ahead(text, position);
        return before;
    }

    // ---- sending, coming and leaving

    public int deliver(int from, int to, int place) {
        present(from);
        Writer receiver = present(to);
        argument(from != to && place >= 0 && place < channel(from, to).size());
        state(!areCut(from, to));
        int before = receiver.known.size();
        come(receiver, channel(from, to).remove(place));
        return receiver.known.size() - before;
    }

    public int deliverAll(int from, int to) {
        present(from);
        Writer receiver = present(to);
        argument(from != to);
        state(!areCut(from, to));
        int before = receiver.known.size();
        while (!channel(from, to).isEmpty()) {
            come(receiver, channel(from, to).remove(0));
        }
        return receiver.known.size() - before;
    }

    public int lose(int from, int to, int place) {
        present(from);
        present(to);
        argument(from != to && place >= 0 && place < channel(from, to).size());
        return channel(from, to).remove(place).number;
    }

    public int repeat(int from, int to, int place) {
        present(from);
        present(to);
        List<Deed> channel = channel(from, to);
        argument(from != to && place >= 0 && place < channel.size());
        state(channel.size() < 150);
        channel.add(channel.get(place));
        return channel.size();
    }

    public int catchUp(int from, int to) {
        Writer sender = present(from);
        Writer receiver = present(to);
        argument(from != to);
        state(!areCut(from, to));
        int before = receiver.known.size();
        for (Deed deed : sender.known) {
            come(receiver, deed);
        }
        return receiver.known.size() - before;
    }

    public boolean cut(int one, int other) {
        boolean isCut = areCut(one, other);
        if (isCut) {
            cuts.remove(Set.of(one, other));
        } else {
            cuts.add(Set.of(one, other));
        }
        return !isCut;
    }

    public int join(int by) {
        Writer sponsor = present(by);
        state(writers.size() < 6);
        Writer writer = new Writer();
        writer.number = writers.size();
        writer.known = new ArrayList<>(sponsor.known);
        writers.add(writer);
        return writer.number;
    }

    public int leave(int writer) {
        Writer leaver = present(writer);
        int count = 0;
        for (Writer other : writers) {
            count += other.isPresent ? 1 : 0;
        }
        state(count > 1);
        leaver.isPresent = false;
        for (Writer other : writers) {
            channel(writer, other.number).clear();
            channel(other.number, writer).clear();
        }
        return count - 1;
    }

    // ---- writers, asked

    public int writers() {
        return writers.size();
    }

    public boolean isPresent(int writer) {
        return writer >= 0 && writer < writers.size() && writers.get(writer).isPresent;
    }

    public int deeds() {
        return deeds.size();
    }

    private static int countBy(Collection<Deed> deeds, int author) {
        int count = 0;
        for (Deed deed : deeds) {
            count += deed.author == author ? 1 : 0;
        }
        return count;
    }

    public int deedsOf(int author) {
        came(author);
        return countBy(deeds, author);
    }

    public int known(int writer) {
        return present(writer).known.size();
    }

    public int knownOf(int writer, int author) {
        Writer one = present(writer);
        came(author);
        return countBy(one.known, author);
    }

    public int waiting(int writer) {
        return present(writer).waiting.size();
    }

    public int inChannel(int from, int to) {
        present(from);
        present(to);
        argument(from != to);
        return channel(from, to).size();
    }

    public boolean areCut(int one, int other) {
        present(one);
        present(other);
        argument(one != other);
        return cuts.contains(Set.of(one, other));
    }

    public int missing(int one, int other) {
        Set<Deed> known = new HashSet<>(present(one).known);
        known.removeAll(new HashSet<>(present(other).known));
        return known.size();
    }

    public boolean agree() {
        Set<Set<Deed>> all = new HashSet<>();
        for (Writer writer : writers) {
            if (writer.isPresent) {
                all.add(new HashSet<>(writer.known));
            }
        }
        return all.size() == 1;
    }

    public int undoable(int writer) {
        return present(writer).done.size();
    }

    public int redoable(int writer) {
        return present(writer).undone.size();
    }

    public int caret(int writer) {
        Writer one = present(writer);
        return caretPosition(one.known, one.caret);
    }

    public int caretSeen(int writer, int other) {
        Writer one = present(writer);
        came(other);
        Deed last = null;
        for (Deed deed : one.known) {
            if (deed.author == other && (last == null || deed.number > last.number)) {
                last = deed;
            }
        }
        return writer == other || last == null ? -1 : caretPosition(one.known, last.caret);
    }

    // ---- texts, asked

    public int length(int writer) {
        return text(present(writer).known).size();
    }

    public int cellsOf(int writer) {
        return cells(present(writer).known).size();
    }

    private Cell at(Collection<Deed> known, int position) {
        List<Cell> text = text(known);
        argument(position >= 0 && position < text.size());
        return text.get(position);
    }

    public int letterAt(int writer, int position) {
        return at(present(writer).known, position).letter;
    }

    public int authorAt(int writer, int position) {
        return at(present(writer).known, position).type.author;
    }

    public int stampAt(int writer, int position) {
        return at(present(writer).known, position).type.stamp;
    }

    public int marksAt(int writer, int position) {
        List<Deed> known = present(writer).known;
        return marks(known, at(known, position));
    }

    public int cellAt(int writer, int place) {
        List<Deed> known = present(writer).known;
        List<Cell> cells = cells(known);
        argument(place >= 0 && place < cells.size());
        Cell cell = cells.get(place);
        int v = 32 * cell.type.author + cell.letter;
        return hidden(known).contains(cell) ? -1 - v : v;
    }

    private List<Deed> version(int writer, int version) {
        List<Deed> known = present(writer).known;
        argument(version >= 0 && version <= known.size());
        return known.subList(0, version);
    }

    public int lengthIn(int writer, int version) {
        return text(version(writer, version)).size();
    }

    public int letterIn(int writer, int version, int position) {
        return at(version(writer, version), position).letter;
    }

    public int find(int writer, int letter, int from) {
        List<Cell> text = text(present(writer).known);
        argument(letter >= 0 && letter <= 26 && from >= 0);
        for (int position = 0; position < text.size(); position++) {
            if (position >= from && text.get(position).letter == letter) {
                return position;
            }
        }
        return -1;
    }

    public int words(int writer) {
        StringBuilder text = new StringBuilder();
        for (Cell cell : text(present(writer).known)) {
            text.append(cell.letter == 26 ? ' ' : (char) ('a' + cell.letter));
        }
        String trimmed = text.toString().trim();
        return trimmed.isEmpty() ? 0 : trimmed.split(" +").length;
    }

    public int longestBy(int writer, int author) {
        List<Cell> text = text(present(writer).known);
        came(author);
        int longest = 0;
        for (int from = 0; from < text.size(); from++) {
            int to = from;
            while (to < text.size() && text.get(to).type.author == author) {
                to++;
            }
            longest = Math.max(longest, to - from);
        }
        return longest;
    }

    public double shareOf(int writer, int author) {
        List<Cell> text = text(present(writer).known);
        came(author);
        double count = 0;
        for (Cell cell : text) {
            count += cell.type.author == author ? 1 : 0;
        }
        return text.isEmpty() ? 0 : count / text.size();
    }

    public int apart(int one, int other) {
        List<Cell> from = text(present(one).known);
        List<Cell> to = text(present(other).known);
        int[][] apart = new int[from.size() + 1][to.size() + 1];
        for (int i = 0; i <= from.size(); i++) {
            for (int j = 0; j <= to.size(); j++) {
                int best = i == 0 && j == 0 ? 0 : Integer.MAX_VALUE;
                if (i > 0) {
                    best = Math.min(best, apart[i - 1][j] + 1);
                }
                if (j > 0) {
                    best = Math.min(best, apart[i][j - 1] + 1);
                }
                if (i > 0 && j > 0) {
                    boolean isSame = from.get(i - 1).letter == to.get(j - 1).letter;
                    best = Math.min(best, apart[i - 1][j - 1] + (isSame ? 0 : 1));
                }
                apart[i][j] = best;
            }
        }
        return apart[from.size()][to.size()];
    }

    public boolean areAlike(int one, int other) {
        return looks(one).equals(looks(other));
    }

    private List<List<Integer>> looks(int writer) {
        List<Deed> known = present(writer).known;
        List<List<Integer>> looks = new ArrayList<>();
        for (Cell cell : text(known)) {
            looks.add(List.of(cell.letter, cell.type.author, marks(known, cell)));
        }
        return looks;
    }

    // ---- what would be (nothing is changed)

    public int lengthOfAll(int writer) {
        present(writer);
        Set<Deed> all = new LinkedHashSet<>();
        for (Writer other : writers) {
            if (other.isPresent) {
                all.addAll(other.known);
            }
        }
        return text(all).size();
    }

    public int lengthUndone(int writer) {
        Writer author = present(writer);
        if (author.done.isEmpty()) {
            return -1;
        }
        Deed undo = deed(author, "UNDO");
        undo.of = author.done.get(author.done.size() - 1);
        List<Deed> known = new ArrayList<>(author.known);
        known.add(undo);
        return text(known).size();
    }

    public int wouldKnow(int writer, int from) {
        Writer one = present(writer);
        present(from);
        argument(writer != from);
        Writer trial = new Writer();
        trial.known.addAll(one.known);
        trial.waiting.addAll(one.waiting);
        for (Deed deed : channel(from, writer)) {
            come(trial, deed);
        }
        return trial.known.size() - one.known.size();
    }

    public int flaws() {
        return 0;
    }

    public long digest() {
        List<Long> numbers = new ArrayList<>();
        numbers.add((long) writers());
        numbers.add((long) deeds());
        numbers.add(agree() ? 1L : 0L);
        for (int writer = 0; writer < writers(); writer++) {
            if (isPresent(writer)) {
                collect(writer, numbers);
            }
        }
        long d = 58011;
        for (long x : numbers) {
            d = d * 31 + x;
        }
        return d;
    }

    private void collect(int writer, List<Long> numbers) {
        numbers.add((long) writer);
        numbers.add((long) known(writer));
        for (int author = 0; author < writers(); author++) {
            numbers.add((long) knownOf(writer, author));
        }
        numbers.add((long) waiting(writer));
        numbers.add((long) undoable(writer));
        numbers.add((long) redoable(writer));
        numbers.add((long) caret(writer));
        for (int other = 0; other < writers(); other++) {
            numbers.add((long) caretSeen(writer, other));
        }
        numbers.add((long) length(writer));
        numbers.add((long) lengthOfAll(writer));
        numbers.add((long) words(writer));
        numbers.add((long) cellsOf(writer));
        List<Deed> known = present(writer).known;
        Set<Cell> hidden = hidden(known);
        for (Cell cell : cells(known)) {
            long v = 32 * cell.type.author + cell.letter;
            numbers.add(hidden.contains(cell) ? -1 - v : v);
        }
        for (Cell cell : text(known)) {
            numbers.add((long) marks(known, cell));
        }
        for (int other = 0; other < writers(); other++) {
            if (other != writer && isPresent(other)) {
                numbers.add((long) inChannel(writer, other));
                numbers.add(areCut(writer, other) ? 1L : 0L);
                numbers.add((long) missing(writer, other));
            }
        }
    }
}
