/** Promises 50 to 53. */
public final class DenialsTest {
    public static void main(String[] args) {
        nothingDenied();
        keptUntilTheNext();
        eachCause();
        causeOfOtherExceptions();
        causeIsForgotten();
        keptOverUndoAndSnapshots();
        Check.end();
    }

    private static void nothingDenied() {
        PetitionBoard board = new PetitionBoard();
        Check.absent("50 nothing", () -> board.denial());
        Check.absent("51 nothing", () -> board.denialDetail());
        Check.absent("52 nothing", () -> board.denialCause());
        Check.absent("53 nothing", () -> board.denialCauseDetail());
        Check.unfit("45 no text", () -> board.execute());
        Check.outside("2 cell", () -> board.addStone(25, 1));
        Check.absent("15 petition", () -> board.withdraw(0));
        Check.absent("50 other exceptions are no denials", () -> board.denial());
    }

    private static void keptUntilTheNext() {
        PetitionBoard board = Boards.ready(2, 2);
        Check.denied("24 quorum", board, 11, 2, () -> board.setQuorum(2));
        board.setQuorum(1);
        Check.unfit("24 quorum 6", () -> board.setQuorum(6));
        Check.is("50 kept", board.denial(), 11);
        Check.is("51 kept", board.denialDetail(), 2);
        Check.absent("52 no cause", () -> board.denialCause());
        Check.absent("53 no cause", () -> board.denialCauseDetail());
        Check.denied("2 occupied", board, 2, 1, () -> board.addStone(1, 1));
    }

    private static void cause(PetitionBoard board, String text, int index, int cause, int detail) {
        Check.denied("45 \"" + text + "\"", board, 12, index, () -> Boards.execute(board, text));
        Check.is("52 \"" + text + "\"", Check.answer(() -> board.denialCause()), String.valueOf(cause));
        Check.is("53 \"" + text + "\"", Check.answer(() -> board.denialCauseDetail()), String.valueOf(detail));
    }

    private static void eachCause() {
        PetitionBoard board = Boards.ready(6, 3);
        Boards.rule(board, true);
        board.file(3, 0, 10, 5);
        board.cite(1, 0);
        cause(board, "quorum 1;officer 5", 1, 1, 6);
        cause(board, "stone 2 4", 0, 2, 2);
        cause(board, "file 4 0 12 4", 0, 3, 1);
        cause(board, "file 4 1 1 4", 0, 4, 1);
        cause(board, "yes 4 1;no 4 1", 1, 5, 1);
        cause(board, "no 4 1;yes 4 1", 1, 5, 0);
        cause(board, "yes 3 1", 0, 6, 3);
        cause(board, "cite 1 0", 0, 7, 0);
        cause(board, "veto 4 1", 0, 8, 5);
        cause(board, "withdraw 1;decide", 1, 9, 1);
        cause(board, "yes 4 1;decide", 1, 10, 1);
        cause(board, "quorum 3;quorum 4;quorum 4", 2, 11, 4);
    }

    private static void causeOfOtherExceptions() {
        PetitionBoard board = Boards.ready(2, 1);
        cause(board, "stone 25 1", 0, 13, 0);
        cause(board, "quorum 1;stone 5 0", 1, 13, 0);
        cause(board, "officer 0", 0, 13, 0);
        cause(board, "quorum 6", 0, 13, 0);
        cause(board, "file 2 0 9 9", 0, 13, 0);
        cause(board, "yes 0 0", 0, 13, 0);
        cause(board, "cite 0 0", 0, 13, 0);
        cause(board, "veto 9 0", 0, 13, 0);
        cause(board, "withdraw 0", 0, 13, 0);
    }

    private static void causeIsForgotten() {
        PetitionBoard board = Boards.ready(2, 1);
        cause(board, "quorum 1;quorum 1", 1, 11, 1);
        Check.denied("25 none pending", board, 9, 0, () -> board.decide());
        Check.absent("52 no cause any more", () -> board.denialCause());
        Check.absent("53 no cause any more", () -> board.denialCauseDetail());
    }

    private static void keptOverUndoAndSnapshots() {
        PetitionBoard board = Boards.ready(2, 1);
        board.saveSnapshot();
        cause(board, "quorum 1;quorum 1", 1, 11, 1);
        board.undo();
        board.restoreSnapshot();
        Check.is("50 kept", board.denial(), 12);
        Check.is("51 kept", board.denialDetail(), 1);
        Check.is("52 kept", board.denialCause(), 11);
        Check.is("53 kept", board.denialCauseDetail(), 1);
    }
}
