/** Promises 38 to 43. */
public final class StatisticsTest {
    public static void main(String[] args) {
        counts();
        movedWeight();
        meanVotes();
        grantedShare();
        Check.end();
    }

    private static void counts() {
        PetitionBoard board = Boards.addStones(Boards.withOfficers(5, 6, 7), 4);
        for (int i = 0; i < 4; i++) {
            board.file(0, i, 20 + i, 0);
        }
        Check.is("38 four pending", board.filedCount(), 4);
        board.veto(2, 3);
        board.withdraw(2);
        board.vote(1, 0, true);
        board.vote(2, 0, true);
        board.decide();
        Check.is("38 filed and no longer pending", board.filedCount(), 4);
        Check.is("38 the sum", board.filedCount(),
                board.pendingCount() + board.rulingCount() + board.vetoes() + board.withdrawals());
        Check.is("39 one", board.vetoes(), 1);
        Check.is("40 one", board.withdrawals(), 1);
        board.withdraw(1);
        Check.is("39 still one", board.vetoes(), 1);
        Check.is("40 two", board.withdrawals(), 2);
    }

    private static void movedWeight() {
        PetitionBoard board = Boards.withOfficers(5, 5, 5);
        board.addStone(0, 9);
        Boards.rule(board, true);
        Check.is("41 once", board.movedWeight(), 9);
        Boards.rule(board, false);
        Check.is("41 not granted", board.movedWeight(), 9);
        Boards.rule(board, true);
        Check.is("41 each move counts", board.movedWeight(), 18);
    }

    private static void meanVotes() {
        PetitionBoard board = Boards.ready(4, 3);
        Check.arithmetic("42 none pending", () -> board.meanVotes());
        board.file(0, 0, 20, 0);
        Check.is("42 no votes", board.meanVotes(), 0.0);
        board.file(0, 1, 20, 0);
        board.file(0, 2, 20, 0);
        board.vote(1, 0, true);
        board.vote(2, 0, false);
        board.vote(3, 0, true);
        board.vote(1, 2, false);
        Check.is("42 four of three", board.meanVotes(), 4.0 / 3.0);
        board.withdraw(0);
        Check.is("42 one of two", board.meanVotes(), 0.5);
    }

    private static void grantedShare() {
        PetitionBoard board = Boards.ready(3, 1);
        Check.arithmetic("43 no rulings", () -> board.grantedShare());
        Boards.rule(board, false);
        Check.is("43 none of one", board.grantedShare(), 0.0f);
        Boards.rule(board, true);
        Boards.rule(board, false);
        Check.is("43 one of three", board.grantedShare(), 1.0f / 3.0f);
        board.addStone(22, 1);
        board.file(0, 0, 22, 0);
        board.vote(1, 3, true);
        board.vote(2, 3, true);
        board.decide();
        Check.is("43 granted, though not carried out", board.grantedShare(), 0.5f);
    }
}
