/** Promises 1 to 10. */
public final class StonesAndOfficersTest {
    public static void main(String[] args) {
        aNewObject();
        addStone();
        addStoneDenied();
        addOfficer();
        stoneQuestions();
        stoneIn();
        officerQuestions();
        petitionsOf();
        Check.end();
    }

    private static void aNewObject() {
        PetitionBoard board = new PetitionBoard();
        Check.is("1 stones", board.stoneCount(), 0);
        Check.is("1 officers", board.officerCount(), 0);
        Check.is("1 pending", board.pendingCount(), 0);
        Check.is("1 rulings", board.rulingCount(), 0);
        Check.is("1 quorum", board.quorum(), 2);
        Check.is("1 filed", board.filedCount(), 0);
        Check.is("1 vetoes", board.vetoes(), 0);
        Check.is("1 withdrawals", board.withdrawals(), 0);
        Check.is("1 moved weight", board.movedWeight(), 0);
        Check.is("1 undo count", board.undoCount(), 0);
        for (int cell = 0; cell < 25; cell++) {
            int asked = cell;
            Check.absent("1 stoneIn " + cell, () -> board.stoneIn(asked));
        }
    }

    private static void addStone() {
        PetitionBoard board = new PetitionBoard();
        Check.is("2 first", board.addStone(24, 9), 0);
        Check.is("2 second", board.addStone(0, 1), 1);
        Check.outside("2 cell -1", () -> board.addStone(-1, 1));
        Check.outside("2 cell 25", () -> board.addStone(25, 1));
        Check.outside("2 cell least", () -> board.addStone(Integer.MIN_VALUE, 1));
        Check.outside("2 cell greatest", () -> board.addStone(Integer.MAX_VALUE, 1));
        Check.unfit("2 weight 0", () -> board.addStone(1, 0));
        Check.unfit("2 weight 10", () -> board.addStone(1, 10));
        Check.unfit("2 weight least", () -> board.addStone(1, Integer.MIN_VALUE));
        Check.outside("2 cell comes before weight", () -> board.addStone(25, 0));
        Check.unfit("2 weight comes before denials", () -> board.addStone(24, 0));
        Check.is("2 no failed call adds", board.stoneCount(), 2);
        Check.absent("2 no exception but a denial counts as one", () -> board.denial());
    }

    private static void addStoneDenied() {
        PetitionBoard board = Boards.addStones(new PetitionBoard(), 9);
        Check.denied("2 occupied", board, 2, 3, () -> board.addStone(3, 1));
        Check.is("2 tenth", board.addStone(20, 9), 9);
        Check.denied("2 eleventh", board, 1, 10, () -> board.addStone(21, 1));
        Check.denied("2 occupied comes before the limit", board, 2, 9, () -> board.addStone(20, 1));
        Check.is("2 ten stay ten", board.stoneCount(), 10);
    }

    private static void addOfficer() {
        PetitionBoard board = new PetitionBoard();
        Check.unfit("3 rank 0", () -> board.addOfficer(0));
        Check.unfit("3 rank 10", () -> board.addOfficer(10));
        Check.unfit("3 rank -1", () -> board.addOfficer(-1));
        for (int i = 0; i < 6; i++) {
            Check.is("3 officer " + i, board.addOfficer(i == 0 ? 9 : i), i);
        }
        Check.denied("3 seventh", board, 1, 6, () -> board.addOfficer(1));
        Check.unfit("3 rank comes before the limit", () -> board.addOfficer(10));
        Check.is("3 six stay six", board.officerCount(), 6);
    }

    private static void stoneQuestions() {
        PetitionBoard board = new PetitionBoard();
        Check.outside("5 none yet", () -> board.cellOf(0));
        Check.outside("6 none yet", () -> board.weightOf(0));
        board.addStone(12, 7);
        Check.is("4 one", board.stoneCount(), 1);
        board.addStone(3, 1);
        Check.is("4 two", board.stoneCount(), 2);
        Check.is("5 first", board.cellOf(0), 12);
        Check.is("5 second", board.cellOf(1), 3);
        Check.is("6 first", board.weightOf(0), 7);
        Check.is("6 second", board.weightOf(1), 1);
        Check.outside("5 index 2", () -> board.cellOf(2));
        Check.outside("5 index -1", () -> board.cellOf(-1));
        Check.outside("5 index greatest", () -> board.cellOf(Integer.MAX_VALUE));
        Check.outside("6 index 2", () -> board.weightOf(2));
        Check.outside("6 index -1", () -> board.weightOf(-1));
    }

    private static void stoneIn() {
        PetitionBoard board = new PetitionBoard();
        board.addStone(24, 1);
        board.addStone(0, 1);
        Check.is("7 last cell", board.stoneIn(24), 0);
        Check.is("7 first cell", board.stoneIn(0), 1);
        Check.absent("7 empty", () -> board.stoneIn(23));
        Check.outside("7 cell 25", () -> board.stoneIn(25));
        Check.outside("7 cell -1", () -> board.stoneIn(-1));
    }

    private static void officerQuestions() {
        PetitionBoard board = new PetitionBoard();
        Check.outside("9 none yet", () -> board.rankOf(0));
        board.addOfficer(9);
        board.addOfficer(1);
        Check.is("8 two", board.officerCount(), 2);
        Check.is("9 first", board.rankOf(0), 9);
        Check.is("9 second", board.rankOf(1), 1);
        Check.outside("9 index 2", () -> board.rankOf(2));
        Check.outside("9 index -1", () -> board.rankOf(-1));
    }

    private static void petitionsOf() {
        PetitionBoard board = Boards.ready(3, 4);
        Check.is("10 none", board.petitionsOf(0), 0);
        board.file(0, 0, 20, 1);
        board.file(1, 1, 20, 1);
        board.file(0, 2, 20, 1);
        Check.is("10 two", board.petitionsOf(0), 2);
        Check.is("10 one", board.petitionsOf(1), 1);
        Check.is("10 still none", board.petitionsOf(2), 0);
        board.withdraw(0);
        Check.is("10 only the pending", board.petitionsOf(0), 1);
        Check.outside("10 index 3", () -> board.petitionsOf(3));
        Check.outside("10 index -1", () -> board.petitionsOf(-1));
    }
}
