import java.util.ArrayList;
import java.util.List;

/** Promises 54 to 57. */
public final class UndoTest {
    public static void main(String[] args) {
        nothingToUndo();
        eachChange();
        atMostEight();
        failedCallsAndQuestionsAreNoChanges();
        numbersAreUndone();
        textBuffer();
        snapshot();
        snapshotIsKept();
        snapshotEndsUndo();
        anotherPast();
        anotherFirstRuling();
        Check.end();
    }

    private static void nothingToUndo() {
        PetitionBoard board = new PetitionBoard();
        Check.is("55 none", board.undoCount(), 0);
        Check.illegalState("54 none", () -> board.undo());
        board.addOfficer(1);
        Check.is("55 one", board.undoCount(), 1);
        Check.is("54 answers none", board.undo(), 0);
        Check.is("54 undone", board.officerCount(), 0);
        Check.illegalState("54 none again", () -> board.undo());
    }

    private static PetitionBoard readyForChanges() {
        PetitionBoard board = Boards.addStones(Boards.withOfficers(5, 6, 7), 3);
        Boards.rule(board, true);
        board.file(0, 1, 20, 3);
        board.file(1, 2, 21, 4);
        board.vote(0, 2, true);
        board.vote(2, 2, true);
        return board;
    }

    /** Undoes each kind of change and compares everything that is to be seen. */
    private static void eachChange() {
        Scene.Call[] changes = {b -> b.addStone(9, 9), b -> b.addOfficer(9), b -> b.setQuorum(4),
            b -> b.file(2, 0, 22, 1), b -> b.vote(1, 1, false), b -> b.cite(1, 0), b -> b.veto(2, 2),
            b -> b.withdraw(1), b -> b.decide(), b -> Boards.execute(b, "withdraw 1;decide;stone 9 9;officer 1")};
        for (int i = 0; i < changes.length; i++) {
            PetitionBoard board = readyForChanges();
            String before = Boards.look(board);
            changes[i].on(board);
            Check.is("54 change " + i + " changes", Boards.look(board).equals(before), false);
            Check.is("54 change " + i + " answers", board.undo(), 7);
            Check.is("54 change " + i + " is undone", Boards.look(board), before);
            board.saveSnapshot();
            changes[i].on(board);
            board.restoreSnapshot();
            Check.is("57 change " + i + " is taken back", Boards.look(board), before);
        }
    }

    private static void atMostEight() {
        PetitionBoard board = new PetitionBoard();
        List<String> looks = new ArrayList<>();
        for (int i = 0; i < 30; i++) {
            looks.add(Boards.look(board));
            board.setQuorum(i % 2 == 0 ? 1 : i / 2 % 3 + 2);
            Check.is("55 after " + (i + 1), board.undoCount(), Math.min(i + 1, 8));
        }
        Check.unfit("24 a call that fails takes no room from the changes", () -> board.setQuorum(6));
        for (int i = 7; i >= 0; i--) {
            Check.is("54 answers " + i, board.undo(), i);
            Check.is("54 back to " + (22 + i), Boards.look(board), looks.get(22 + i));
        }
        Check.illegalState("54 older ones are forgotten", () -> board.undo());
        board.setQuorum(board.quorum() == 5 ? 4 : 5);
        Check.is("55 one again", board.undoCount(), 1);
    }

    private static void failedCallsAndQuestionsAreNoChanges() {
        PetitionBoard board = Boards.ready(2, 1);
        String before = Boards.look(board);
        Check.is("55 three", board.undoCount(), 3);
        Check.denied("24 denied", board, 11, 2, () -> board.setQuorum(2));
        Check.outside("2 outside", () -> board.addStone(25, 1));
        Check.unfit("3 unfit", () -> board.addOfficer(0));
        Check.absent("15 absent", () -> board.withdraw(0));
        Check.unfit("45 unfit", () -> Boards.execute(board, "x"));
        Check.denied("45 denied", board, 12, 1, () -> Boards.execute(board, "quorum 1;decide"));
        board.saveSnapshot();
        board.writeRow(0);
        board.feed('x');
        Check.is("55 still three", board.undoCount(), 3);
        Check.is("54 nothing changed", Boards.look(board), before);
        Check.is("54 answers two", board.undo(), 2);
        Check.is("54 the stone is undone", board.stoneCount(), 0);
    }

    private static void numbersAreUndone() {
        PetitionBoard board = Boards.ready(2, 2);
        board.saveSnapshot();
        Check.is("54 number 0", board.file(0, 0, 20, 0), 0);
        board.undo();
        Check.is("54 number 0 again", board.file(0, 1, 20, 0), 0);
        Check.is("57 number 1", board.file(0, 0, 20, 0), 1);
        board.restoreSnapshot();
        Check.is("57 number 0 once more", board.file(1, 0, 20, 0), 0);
    }

    private static void textBuffer() {
        PetitionBoard board = Boards.ready(1, 1);
        Boards.feed(board, "quorum ");
        board.saveSnapshot();
        board.undo();
        board.restoreSnapshot();
        Check.is("54, 57 the text stays", board.feed('1'), 8);
        Check.is("45 executes", board.execute(), 1);
        board.undo();
        Check.is("54 the buffer stays empty", board.feed('x'), 1);
    }

    private static void snapshot() {
        PetitionBoard board = Boards.ready(3, 3);
        Check.illegalState("57 no snapshot", () -> board.restoreSnapshot());
        board.file(0, 0, 20, 0);
        board.file(0, 1, 20, 0);
        Check.is("56 answers the pending", board.saveSnapshot(), 2);
        String saved = Boards.look(board);
        Boards.execute(board, "withdraw 0;yes 1 1;yes 2 1;decide;file 1 2 9 9;cite 2 0");
        board.setQuorum(1);
        Check.is("57 answers the pending", board.restoreSnapshot(), 2);
        Check.is("57 restored", Boards.look(board), saved);
    }

    private static void snapshotIsKept() {
        PetitionBoard board = Boards.ready(3, 3);
        board.saveSnapshot();
        String saved = Boards.look(board);
        for (int i = 0; i < 2; i++) {
            board.file(0, i, 20, 0);
            board.restoreSnapshot();
            Check.is("57 restored, time " + i, Boards.look(board), saved);
        }
        board.file(0, 2, 20, 0);
        board.saveSnapshot();
        String later = Boards.look(board);
        board.undo();
        Check.is("54 undone", Boards.look(board), saved);
        board.restoreSnapshot();
        Check.is("56 the later one replaces the earlier, over undo", Boards.look(board), later);
    }

    private static void snapshotEndsUndo() {
        PetitionBoard board = Boards.ready(3, 3);
        Check.is("56 answers none pending", board.saveSnapshot(), 0);
        Check.is("56 saving forgets nothing", board.undoCount(), 6);
        board.setQuorum(1);
        board.restoreSnapshot();
        Check.is("57 forgets", board.undoCount(), 0);
        Check.illegalState("57 nothing to undo", () -> board.undo());
        board.setQuorum(3);
        Check.is("54 a later change", board.undo(), 0);
        Check.is("54 is undone", board.quorum(), 2);
    }

    /** What was undone and then done otherwise comes back as it was saved. */
    private static void anotherPast() {
        PetitionBoard board = Boards.ready(5, 2);
        Boards.rule(board, false);
        board.addOfficer(9);
        board.addStone(7, 9);
        int petition = board.file(0, 0, 20, 8);
        board.cite(petition, 0);
        board.vote(1, petition, true);
        board.vote(2, petition, true);
        board.decide();
        board.file(0, 1, 9, 6);
        board.saveSnapshot();
        String saved = Boards.look(board);
        for (int i = 0; i < 8; i++) {
            board.undo();
        }
        board.addOfficer(2);
        board.addStone(8, 3);
        board.file(1, 0, 21, 2);
        board.vote(2, 1, false);
        board.vote(3, 1, false);
        board.decide();
        board.file(2, 2, 10, 1);
        String other = Boards.look(board);
        board.undo();
        board.undo();
        board.vote(0, 1, true);
        board.vote(4, 1, true);
        board.vote(5, 1, true);
        board.decide();
        Check.is("54 granted this time", board.isGranted(1), true);
        board.undo();
        board.undo();
        board.undo();
        board.undo();
        board.decide();
        board.file(2, 2, 10, 1);
        Check.is("54 as before", Boards.look(board), other);
        board.restoreSnapshot();
        Check.is("57 as saved", Boards.look(board), saved);
    }

    private static void anotherFirstRuling() {
        PetitionBoard board = Boards.ready(3, 1);
        Boards.rule(board, true);
        board.saveSnapshot();
        for (int i = 0; i < 4; i++) {
            board.undo();
        }
        Boards.rule(board, false);
        board.restoreSnapshot();
        Check.is("57 granted as saved", board.isGranted(0), true);
        Check.is("57 carried out as saved", board.isCarriedOut(0), true);
    }
}
