/** Promises 11 to 23. */
public final class PetitionsTest {
    public static void main(String[] args) {
        file();
        fileWrongly();
        fileDenied();
        vote();
        voteWrongly();
        cite();
        citeWrongly();
        veto();
        withdraw();
        queueOrder();
        queueQuestions();
        contents();
        wouldBeGranted();
        Check.end();
    }

    private static void file() {
        PetitionBoard board = Boards.ready(2, 3);
        Check.is("11 first number", board.file(0, 0, 24, 0), 0);
        Check.is("11 second number", board.file(1, 2, 0, 9), 1);
        board.withdraw(1);
        Check.is("11 numbers are not used again", board.file(1, 2, 0, 9), 2);
        Check.is("11 the cell may be occupied", board.targetOf(2), 0);
        Check.is("11 pending", board.pendingCount(), 2);
        Check.is("11 stones stay", board.cellOf(2), 2);
    }

    private static void fileWrongly() {
        PetitionBoard board = Boards.ready(2, 3);
        Check.outside("11 officer 2", () -> board.file(2, 0, 24, 0));
        Check.outside("11 officer -1", () -> board.file(-1, 0, 24, 0));
        Check.outside("11 stone 3", () -> board.file(0, 3, 24, 0));
        Check.outside("11 stone -1", () -> board.file(0, -1, 24, 0));
        Check.outside("11 cell 25", () -> board.file(0, 0, 25, 0));
        Check.outside("11 cell -1", () -> board.file(0, 0, -1, 0));
        Check.unfit("11 urgency -1", () -> board.file(0, 0, 24, -1));
        Check.unfit("11 urgency 10", () -> board.file(0, 0, 24, 10));
        Check.outside("11 cell comes before urgency", () -> board.file(0, 0, 25, 10));
        Check.unfit("11 urgency comes before denials", () -> board.file(0, 0, 0, 10));
        Check.is("11 nothing was filed", board.filedCount(), 0);
        Check.is("11 nothing is pending", board.pendingCount(), 0);
    }

    private static void fileDenied() {
        PetitionBoard board = Boards.ready(2, 10);
        board.withdraw(board.file(0, 9, 24, 0));
        for (int i = 0; i < 7; i++) {
            board.file(0, i, 24, 0);
        }
        Check.denied("11 asked for", board, 3, 4, () -> board.file(1, 3, 20, 5));
        Check.denied("11 asked for comes before lies there", board, 3, 4, () -> board.file(1, 3, 3, 5));
        Check.denied("11 lies there", board, 4, 8, () -> board.file(1, 8, 8, 5));
        Check.is("11 eighth", board.file(0, 7, 24, 0), 8);
        Check.denied("11 ninth", board, 1, 8, () -> board.file(1, 8, 20, 5));
        Check.denied("11 lies there comes before the limit", board, 4, 8, () -> board.file(1, 8, 8, 5));
        Check.denied("11 asked for comes before the limit", board, 3, 8, () -> board.file(1, 7, 8, 5));
        Check.is("11 eight stay eight", board.pendingCount(), 8);
        Check.is("11 denied ones have no number", board.filedCount(), 9);
    }

    private static void vote() {
        PetitionBoard board = Boards.ready(6, 2);
        board.file(0, 0, 24, 0);
        board.file(1, 1, 24, 0);
        Check.is("12 first", board.vote(1, 0, true), 1);
        Check.is("12 second", board.vote(2, 0, false), 2);
        Check.is("12 third", board.vote(3, 0, false), 3);
        Check.is("12 fourth", board.vote(4, 0, true), 4);
        Check.is("12 fifth", board.vote(5, 0, true), 5);
        Check.is("12 each petition has its own votes", board.vote(5, 1, false), 1);
        Check.is("12 for", board.votesFor(0), 3);
        Check.is("12 against", board.votesAgainst(0), 2);
        Check.denied("12 voted for", board, 5, 1, () -> board.vote(1, 0, false));
        Check.denied("12 voted against", board, 5, 0, () -> board.vote(2, 0, true));
        Check.denied("12 voted for, once more the same", board, 5, 1, () -> board.vote(5, 0, true));
        Check.denied("12 the petitioner", board, 6, 1, () -> board.vote(1, 1, true));
        Check.is("12 denied votes do not count", board.votesFor(0) + board.votesAgainst(0), 5);
    }

    private static void voteWrongly() {
        PetitionBoard board = Boards.ready(2, 2);
        board.file(0, 0, 24, 0);
        board.withdraw(board.file(0, 1, 24, 0));
        Check.outside("12 officer 2", () -> board.vote(2, 0, true));
        Check.outside("12 officer -1", () -> board.vote(-1, 0, true));
        Check.absent("12 petition 1 is withdrawn", () -> board.vote(1, 1, true));
        Check.absent("12 petition 2", () -> board.vote(1, 2, true));
        Check.absent("12 petition -1", () -> board.vote(1, -1, true));
        Check.outside("12 officer comes before petition", () -> board.vote(2, 9, true));
        Check.is("12 no votes", board.votesFor(0), 0);
        board.addOfficer(1);
        Check.is("12 a later officer votes too", board.vote(2, 0, true), 1);
    }

    private static void cite() {
        PetitionBoard board = Boards.ready(3, 2);
        for (int i = 0; i < 4; i++) {
            Boards.rule(board, true);
        }
        int petition = board.file(0, 1, 20, 0);
        Check.is("13 first", board.cite(petition, 3), 1);
        Check.is("13 second", board.cite(petition, 0), 2);
        Check.denied("13 cited", board, 7, 3, () -> board.cite(petition, 3));
        Check.is("13 third", board.cite(petition, 2), 3);
        Check.denied("13 fourth", board, 1, 3, () -> board.cite(petition, 1));
        Check.denied("13 cited comes before the limit", board, 7, 0, () -> board.cite(petition, 0));
        board.vote(1, petition, true);
        board.vote(2, petition, false);
        int ruling = board.decide();
        Check.is("13 three are kept", board.citationCount(ruling), 3);
        Check.is("13 granted by three granted rulings", board.isGranted(ruling), true);
    }

    private static void citeWrongly() {
        PetitionBoard board = Boards.ready(3, 2);
        Boards.rule(board, true);
        int petition = board.file(0, 1, 20, 0);
        Check.absent("13 petition 0 is decided", () -> board.cite(0, 0));
        Check.absent("13 petition 2", () -> board.cite(2, 0));
        Check.absent("13 ruling 1", () -> board.cite(petition, 1));
        Check.absent("13 ruling -1", () -> board.cite(petition, -1));
        Check.absent("13 neither", () -> board.cite(-1, -1));
        board.writePetition(petition);
        Check.is("13 nothing is cited", Boards.line(board), "#1:1>20@0!0+0-0");
    }

    private static void veto() {
        PetitionBoard board = Boards.addStones(Boards.withOfficers(5, 5, 6, 4, 9), 3);
        board.file(0, 0, 24, 0);
        board.file(3, 1, 24, 0);
        board.file(4, 2, 24, 0);
        Check.denied("14 equal rank", board, 8, 5, () -> board.veto(1, 0));
        Check.denied("14 lower rank", board, 8, 9, () -> board.veto(2, 2));
        Check.denied("14 the petitioner", board, 8, 5, () -> board.veto(0, 0));
        Check.outside("14 officer 5", () -> board.veto(5, 0));
        Check.outside("14 officer -1", () -> board.veto(-1, 0));
        Check.outside("14 officer comes before petition", () -> board.veto(5, 9));
        Check.absent("14 petition 3", () -> board.veto(4, 3));
        Check.is("14 vetoes", board.vetoes(), 0);
        Check.is("14 higher rank", board.veto(2, 0), 2);
        Check.absent("14 no longer pending", () -> board.veto(2, 0));
        Check.is("14 one more", board.veto(1, 1), 1);
        Check.is("14 counted", board.vetoes(), 2);
        Check.is("14 no ruling", board.rulingCount(), 0);
        Check.is("14 the stone is free", board.file(0, 0, 20, 0), 3);
    }

    private static void withdraw() {
        PetitionBoard board = Boards.ready(1, 3);
        board.file(0, 0, 24, 0);
        board.file(0, 1, 24, 0);
        board.file(0, 2, 24, 0);
        Check.is("15 the middle one", board.withdraw(1), 2);
        Check.absent("15 no longer pending", () -> board.withdraw(1));
        Check.absent("15 petition 3", () -> board.withdraw(3));
        Check.absent("15 petition -1", () -> board.withdraw(-1));
        Check.is("15 the others stay", board.petitionAt(0) * 10 + board.petitionAt(1), 2);
        Check.is("15 one", board.withdraw(0), 1);
        Check.is("15 none", board.withdraw(2), 0);
        Check.is("15 counted", board.withdrawals(), 3);
    }

    private static void queueOrder() {
        PetitionBoard board = Boards.addStones(Boards.withOfficers(3, 7, 3), 6);
        board.file(0, 0, 24, 4);
        board.file(0, 1, 24, 5);
        board.file(1, 2, 24, 0);
        board.file(2, 3, 24, 5);
        board.file(2, 4, 24, 9);
        board.file(1, 5, 24, 0);
        int[] due = {2, 5, 4, 1, 3, 0};
        for (int i = 0; i < due.length; i++) {
            Check.is("17 position " + i, board.petitionAt(i), due[i]);
            Check.is("18 petition " + due[i], board.positionOf(due[i]), i);
        }
    }

    private static void queueQuestions() {
        PetitionBoard board = Boards.ready(1, 2);
        Check.absent("17 none pending", () -> board.petitionAt(0));
        Check.absent("18 none pending", () -> board.positionOf(0));
        Check.is("16 none", board.pendingCount(), 0);
        board.file(0, 0, 24, 0);
        board.file(0, 1, 24, 1);
        Check.is("16 two", board.pendingCount(), 2);
        Check.absent("17 position 2", () -> board.petitionAt(2));
        Check.absent("17 position -1", () -> board.petitionAt(-1));
        board.withdraw(1);
        Check.is("16 one", board.pendingCount(), 1);
        Check.is("18 moves up", board.positionOf(0), 0);
        Check.absent("18 withdrawn", () -> board.positionOf(1));
        Check.absent("18 petition -1", () -> board.positionOf(-1));
        Check.absent("17 position 1", () -> board.petitionAt(1));
    }

    private static void contents() {
        PetitionBoard board = Boards.ready(4, 2);
        board.file(0, 1, 23, 0);
        board.file(1, 0, 7, 3);
        board.vote(1, 0, true);
        board.vote(2, 0, true);
        board.vote(3, 0, false);
        Check.is("19 first", board.stoneOf(0), 1);
        Check.is("19 second", board.stoneOf(1), 0);
        Check.is("20 first", board.targetOf(0), 23);
        Check.is("20 second", board.targetOf(1), 7);
        Check.is("21 first", board.votesFor(0), 2);
        Check.is("21 second", board.votesFor(1), 0);
        Check.is("22 first", board.votesAgainst(0), 1);
        Check.is("22 second", board.votesAgainst(1), 0);
        for (int wrong : new int[] {-1, 2, Integer.MAX_VALUE, Integer.MIN_VALUE}) {
            Check.absent("19 petition " + wrong, () -> board.stoneOf(wrong));
            Check.absent("20 petition " + wrong, () -> board.targetOf(wrong));
            Check.absent("21 petition " + wrong, () -> board.votesFor(wrong));
            Check.absent("22 petition " + wrong, () -> board.votesAgainst(wrong));
            Check.absent("23 petition " + wrong, () -> board.wouldBeGranted(wrong));
        }
        board.withdraw(0);
        Check.absent("19 withdrawn", () -> board.stoneOf(0));
        board.file(2, 1, 22, 0);
        Check.is("21 a new petition has no votes", board.votesFor(2), 0);
        Check.is("22 a new petition has no votes", board.votesAgainst(2), 0);
    }

    private static void wouldBeGranted() {
        PetitionBoard board = Boards.ready(6, 3);
        Boards.rule(board, true);
        Boards.rule(board, false);
        Boards.rule(board, true);
        int petition = board.file(0, 1, 20, 0);
        board.file(0, 2, 20, 9);
        Check.is("23 no votes", board.wouldBeGranted(petition), false);
        board.vote(1, petition, true);
        Check.is("23 one for, below the quorum and not first", board.wouldBeGranted(petition), true);
        board.vote(2, petition, false);
        Check.is("23 a tie", board.wouldBeGranted(petition), false);
        board.cite(petition, 2);
        Check.is("23 a granted ruling", board.wouldBeGranted(petition), true);
        Check.is("21 citations are no votes", board.votesFor(petition), 1);
        board.cite(petition, 1);
        Check.is("23 a ruling that is not granted", board.wouldBeGranted(petition), false);
        Check.is("22 citations are no votes", board.votesAgainst(petition), 1);
        board.cite(petition, 0);
        Check.is("23 two against one", board.wouldBeGranted(petition), true);
        board.vote(3, petition, false);
        Check.is("23 a tie of both kinds", board.wouldBeGranted(petition), false);
    }
}
