import java.lang.reflect.Constructor;
import java.lang.reflect.Field;
import java.lang.reflect.Method;
import java.lang.reflect.Modifier;
import java.util.ArrayList;
import java.util.Arrays;
import java.util.Collections;
import java.util.List;

/** The class has the document's face, and no other member that is not private. */
public final class FaceTest {
    private static final String[] DUE = {
        "int addStone(int, int)"
            + " throws IndexOutOfBoundsException, IllegalArgumentException, UnsupportedOperationException",
        "int addOfficer(int) throws IllegalArgumentException, UnsupportedOperationException",
        "int stoneCount()",
        "int cellOf(int) throws IndexOutOfBoundsException",
        "int weightOf(int) throws IndexOutOfBoundsException",
        "int stoneIn(int) throws IndexOutOfBoundsException, NoSuchElementException",
        "int officerCount()",
        "int rankOf(int) throws IndexOutOfBoundsException",
        "int petitionsOf(int) throws IndexOutOfBoundsException",
        "int file(int, int, int, int)"
            + " throws IndexOutOfBoundsException, IllegalArgumentException, UnsupportedOperationException",
        "int vote(int, int, boolean)"
            + " throws IndexOutOfBoundsException, NoSuchElementException, UnsupportedOperationException",
        "int cite(int, int) throws NoSuchElementException, UnsupportedOperationException",
        "int veto(int, int)"
            + " throws IndexOutOfBoundsException, NoSuchElementException, UnsupportedOperationException",
        "int withdraw(int) throws NoSuchElementException",
        "int pendingCount()",
        "int petitionAt(int) throws NoSuchElementException",
        "int positionOf(int) throws NoSuchElementException",
        "int stoneOf(int) throws NoSuchElementException",
        "int targetOf(int) throws NoSuchElementException",
        "int votesFor(int) throws NoSuchElementException",
        "int votesAgainst(int) throws NoSuchElementException",
        "boolean wouldBeGranted(int) throws NoSuchElementException",
        "int setQuorum(int) throws IllegalArgumentException, UnsupportedOperationException",
        "int decide() throws UnsupportedOperationException",
        "int quorum()",
        "int rulingCount()",
        "boolean isGranted(int) throws IndexOutOfBoundsException",
        "boolean isCarriedOut(int) throws IndexOutOfBoundsException",
        "int citationCount(int) throws IndexOutOfBoundsException",
        "int citation(int, int) throws IndexOutOfBoundsException, NoSuchElementException",
        "int citedBy(int) throws IndexOutOfBoundsException",
        "int depth(int) throws IndexOutOfBoundsException",
        "boolean isBasedOn(int, int) throws IndexOutOfBoundsException",
        "int influence(int) throws IndexOutOfBoundsException",
        "int influenceByMarking(int) throws IndexOutOfBoundsException",
        "int rulingByInfluence(int) throws NoSuchElementException",
        "int filedCount()",
        "int vetoes()",
        "int withdrawals()",
        "int movedWeight()",
        "double meanVotes() throws ArithmeticException",
        "float grantedShare() throws ArithmeticException",
        "int feed(char) throws IllegalStateException",
        "int execute() throws IllegalArgumentException, UnsupportedOperationException",
        "int faultPosition() throws NoSuchElementException",
        "int writePetition(int) throws NoSuchElementException",
        "int writeRow(int) throws IndexOutOfBoundsException",
        "char lineCharacter(int) throws IndexOutOfBoundsException",
        "int denial() throws NoSuchElementException",
        "int denialDetail() throws NoSuchElementException",
        "int denialCause() throws NoSuchElementException",
        "int denialCauseDetail() throws NoSuchElementException",
        "int undo() throws IllegalStateException",
        "int undoCount()",
        "int saveSnapshot()",
        "int restoreSnapshot() throws IllegalStateException",
    };

    public static void main(String[] args) {
        Class<?> face = PetitionBoard.class;
        Check.is("public and final", face.getModifiers(), Modifier.PUBLIC | Modifier.FINAL);
        Constructor<?>[] constructors = face.getDeclaredConstructors();
        Check.is("one constructor", constructors.length, 1);
        Check.is("it is public", constructors[0].getModifiers(), Modifier.PUBLIC);
        Check.is("it has no parameters", constructors[0].getParameterCount(), 0);
        methods(face);
        for (Field field : face.getDeclaredFields()) {
            Check.is(field.getName() + " is private", Modifier.isPrivate(field.getModifiers()), true);
            boolean mayChange = Modifier.isStatic(field.getModifiers()) && !Modifier.isFinal(field.getModifiers());
            Check.is(field.getName() + " is no static state", mayChange, false);
        }
        Check.end();
    }

    private static void methods(Class<?> face) {
        List<String> due = new ArrayList<>(Arrays.asList(DUE));
        List<String> got = new ArrayList<>();
        List<String> publicNames = new ArrayList<>();
        for (Method method : face.getDeclaredMethods()) {
            if (!Modifier.isPrivate(method.getModifiers()) && !method.isSynthetic()) {
                got.add(signature(method));
                publicNames.add(method.getName());
            }
        }
        Collections.sort(due);
        Collections.sort(got);
        Check.is("the methods", got, due);
        for (Method method : face.getDeclaredMethods()) {
            boolean isHidden = Modifier.isPrivate(method.getModifiers()) && publicNames.contains(method.getName());
            Check.is(method.getName() + " is private and bears a public name", isHidden, false);
        }
    }

    private static String signature(Method method) {
        List<String> parameters = new ArrayList<>();
        for (Class<?> type : method.getParameterTypes()) {
            parameters.add(type.getSimpleName());
        }
        List<String> exceptions = new ArrayList<>();
        for (Class<?> type : method.getExceptionTypes()) {
            exceptions.add(type.getSimpleName());
        }
        String thrown = exceptions.isEmpty() ? "" : " throws " + String.join(", ", exceptions);
        return method.getReturnType().getSimpleName() + " " + method.getName()
                + "(" + String.join(", ", parameters) + ")" + thrown;
    }
}
