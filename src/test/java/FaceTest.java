import java.lang.reflect.Constructor;
import java.lang.reflect.Method;
import java.lang.reflect.Modifier;
import java.util.ArrayList;
import java.util.Arrays;
import java.util.HashSet;
import java.util.List;
import java.util.Set;

/** The class has the face of the document, and no other member that others could use. */
public final class FaceTest {
    private static final String[] FACE = {
        "int type(int,int,int,int) IndexOutOfBounds IllegalArgument IllegalState",
        "int typeAtCaret(int,int,int) IndexOutOfBounds IllegalArgument IllegalState",
        "int erase(int,int,int) IndexOutOfBounds IllegalArgument IllegalState",
        "int mark(int,int,int,int,boolean) IndexOutOfBounds IllegalArgument IllegalState",
        "int undo(int) IndexOutOfBounds IllegalState",
        "int redo(int) IndexOutOfBounds IllegalState",
        "int moveCaret(int,int) IndexOutOfBounds IllegalArgument",
        "int deliver(int,int,int) IndexOutOfBounds IllegalArgument IllegalState",
        "int deliverAll(int,int) IndexOutOfBounds IllegalArgument IllegalState",
        "int lose(int,int,int) IndexOutOfBounds IllegalArgument",
        "int repeat(int,int,int) IndexOutOfBounds IllegalArgument IllegalState",
        "int catchUp(int,int) IndexOutOfBounds IllegalArgument IllegalState",
        "boolean cut(int,int) IndexOutOfBounds IllegalArgument",
        "int join(int) IndexOutOfBounds IllegalState",
        "int leave(int) IndexOutOfBounds IllegalState",
        "int writers()",
        "boolean isPresent(int)",
        "int deeds()",
        "int deedsOf(int) IndexOutOfBounds",
        "int known(int) IndexOutOfBounds",
        "int knownOf(int,int) IndexOutOfBounds",
        "int waiting(int) IndexOutOfBounds",
        "int inChannel(int,int) IndexOutOfBounds IllegalArgument",
        "boolean areCut(int,int) IndexOutOfBounds IllegalArgument",
        "int missing(int,int) IndexOutOfBounds",
        "boolean agree()",
        "int undoable(int) IndexOutOfBounds",
        "int redoable(int) IndexOutOfBounds",
        "int caret(int) IndexOutOfBounds",
        "int caretSeen(int,int) IndexOutOfBounds",
        "int length(int) IndexOutOfBounds",
        "int cellsOf(int) IndexOutOfBounds",
        "int letterAt(int,int) IndexOutOfBounds IllegalArgument",
        "int authorAt(int,int) IndexOutOfBounds IllegalArgument",
        "int stampAt(int,int) IndexOutOfBounds IllegalArgument",
        "int marksAt(int,int) IndexOutOfBounds IllegalArgument",
        "int cellAt(int,int) IndexOutOfBounds IllegalArgument",
        "int lengthIn(int,int) IndexOutOfBounds IllegalArgument",
        "int letterIn(int,int,int) IndexOutOfBounds IllegalArgument",
        "int find(int,int,int) IndexOutOfBounds IllegalArgument",
        "int words(int) IndexOutOfBounds",
        "int longestBy(int,int) IndexOutOfBounds",
        "double shareOf(int,int) IndexOutOfBounds",
        "int apart(int,int) IndexOutOfBounds",
        "boolean areAlike(int,int) IndexOutOfBounds",
        "int lengthOfAll(int) IndexOutOfBounds",
        "int lengthUndone(int) IndexOutOfBounds",
        "int wouldKnow(int,int) IndexOutOfBounds IllegalArgument",
        "int flaws()",
        "long digest()",
    };

    public static void main(String[] arguments) {
        Class<?> face = SharedPalimpsest.class;
        Check.same("public and final", face.getModifiers(), Modifier.PUBLIC | Modifier.FINAL);
        Set<String> due = new HashSet<>(Arrays.asList(FACE));
        Set<String> names = new HashSet<>();
        for (Method method : face.getDeclaredMethods()) {
            if (!Modifier.isPrivate(method.getModifiers())) {
                names.add(method.getName());
                Check.same("in the face: " + describe(method), due.remove(describe(method)), true);
            }
        }
        for (String missing : due) {
            Check.same("missing in the face: " + missing, true, false);
        }
        checkConstructors(face);
        Check.same("fields that others see", face.getFields().length, 0);
        checkNames(face, names);
        for (Class<?> inside : face.getDeclaredClasses()) {
            Check.same(inside + " is not public", Modifier.isPublic(inside.getModifiers()), false);
            checkNames(inside, names);
        }
        Check.end("FaceTest");
    }

    private static void checkConstructors(Class<?> face) {
        Constructor<?>[] constructors = face.getDeclaredConstructors();
        Check.same("one constructor", constructors.length, 1);
        Check.same("public", Modifier.isPublic(constructors[0].getModifiers()), true);
        Check.same("without parameters", constructors[0].getParameterCount(), 0);
    }

    /** No other method bears the name of one of the face, and none has over 7 parameters. */
    private static void checkNames(Class<?> where, Set<String> names) {
        for (Method method : where.getDeclaredMethods()) {
            boolean isFace = Modifier.isPublic(method.getModifiers()) && !where.isMemberClass();
            Check.same(where + "." + method.getName() + " has a name of its own",
                    !isFace && names.contains(method.getName()), false);
            Check.same(method.getName() + " has at most 7 parameters",
                    method.getParameterCount() <= 7, true);
        }
    }

    private static String describe(Method method) {
        List<String> parameters = new ArrayList<>();
        for (Class<?> parameter : method.getParameterTypes()) {
            parameters.add(parameter.getSimpleName());
        }
        StringBuilder told = new StringBuilder();
        told.append(method.getReturnType().getSimpleName()).append(' ').append(method.getName());
        told.append('(').append(String.join(",", parameters)).append(')');
        for (Class<?> thrown : method.getExceptionTypes()) {
            told.append(' ').append(thrown.getSimpleName().replace("Exception", ""));
        }
        return told.toString();
    }
}
