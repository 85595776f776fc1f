/** Promises 24 to 37. */
public final class RulingsTest {
    public static void main(String[] args) {
        setQuorum();
        decide();
        decideByCitations();
        decideIntoAnOccupiedCell();
        decideDenied();
        decideAtTheLimit();
        rulingQuestions();
        precedents();
        longChain();
        rulingByInfluence();
        wrongRulings();
        Check.end();
    }

    private static void setQuorum() {
        PetitionBoard board = new PetitionBoard();
        Check.denied("24 the present value", board, 11, 2, () -> board.setQuorum(2));
        Check.is("24 answers the one before", board.setQuorum(5), 2);
        Check.is("26 five", board.quorum(), 5);
        Check.is("24 answers the one before again", board.setQuorum(1), 5);
        Check.is("26 one", board.quorum(), 1);
        Check.unfit("24 quorum 0", () -> board.setQuorum(0));
        Check.unfit("24 quorum 6", () -> board.setQuorum(6));
        Check.unfit("24 quorum least", () -> board.setQuorum(Integer.MIN_VALUE));
        Check.denied("24 the new value", board, 11, 1, () -> board.setQuorum(1));
        Check.is("26 still one", board.quorum(), 1);
    }

    private static void decide() {
        PetitionBoard board = Boards.ready(4, 3);
        board.file(0, 0, 20, 1);
        board.file(0, 1, 21, 2);
        board.file(0, 2, 22, 3);
        board.vote(1, 2, true);
        board.vote(2, 2, true);
        Check.is("25 first ruling", board.decide(), 0);
        Check.is("25 granted", board.isGranted(0), true);
        Check.is("25 carried out", board.isCarriedOut(0), true);
        Check.is("25 moved", board.cellOf(2), 22);
        Check.absent("25 the cell is left", () -> board.stoneIn(2));
        Check.absent("25 no longer pending", () -> board.stoneOf(2));
        board.vote(1, 1, true);
        board.vote(2, 1, false);
        Check.is("25 second ruling", board.decide(), 1);
        Check.is("25 a tie is not granted", board.isGranted(1), false);
        Check.is("25 nor carried out", board.isCarriedOut(1), false);
        Check.is("25 not moved", board.cellOf(1), 1);
        board.vote(1, 0, true);
        board.vote(2, 0, false);
        board.vote(3, 0, true);
        Check.is("25 third ruling", board.decide(), 2);
        Check.is("25 two against one", board.isGranted(2), true);
        Check.is("27 three", board.rulingCount(), 3);
        Check.is("25 none pending", board.pendingCount(), 0);
    }

    private static void decideByCitations() {
        PetitionBoard board = Boards.ready(3, 1);
        board.setQuorum(1);
        Boards.rule(board, true);
        board.file(0, 0, 10, 0);
        board.cite(1, 0);
        Check.denied("25 citations are no votes", board, 10, 0, () -> board.decide());
        board.vote(1, 1, false);
        Check.is("25 decided", board.decide(), 1);
        Check.is("25 one citation against one vote", board.isGranted(1), false);
        board.file(0, 0, 10, 0);
        board.cite(2, 1);
        board.vote(1, 2, true);
        Check.is("25 decided", board.decide(), 2);
        Check.is("25 a ruling that is not granted counts against", board.isGranted(2), false);
    }

    private static void decideIntoAnOccupiedCell() {
        PetitionBoard board = Boards.ready(3, 2);
        board.file(0, 0, 1, 0);
        board.vote(1, 0, true);
        board.vote(2, 0, true);
        board.decide();
        Check.is("25 granted", board.isGranted(0), true);
        Check.is("25 not carried out", board.isCarriedOut(0), false);
        Check.is("25 the stone stays", board.cellOf(0), 0);
        Check.is("25 the other stays", board.stoneIn(1), 1);
        Check.is("25 no weight", board.movedWeight(), 0);
    }

    private static void decideDenied() {
        PetitionBoard board = Boards.ready(4, 2);
        Check.denied("25 none pending", board, 9, 0, () -> board.decide());
        Boards.rule(board, true);
        Check.denied("25 none pending after a ruling", board, 9, 1, () -> board.decide());
        board.file(0, 0, 10, 0);
        board.file(0, 1, 10, 9);
        board.vote(1, 1, true);
        board.vote(2, 1, true);
        Check.denied("25 only the first counts", board, 10, 0, () -> board.decide());
        board.vote(1, 2, false);
        Check.denied("25 one vote", board, 10, 1, () -> board.decide());
        board.setQuorum(1);
        Check.is("25 the quorum is reached", board.decide(), 1);
        Check.is("25 the other one is next", board.decide(), 2);
    }

    private static void decideAtTheLimit() {
        PetitionBoard board = Boards.ready(3, 2);
        for (int i = 0; i < 16; i++) {
            Check.is("25 ruling " + i, Boards.rule(board, true), i);
        }
        Check.denied("25 none pending comes first", board, 9, 16, () -> board.decide());
        board.file(0, 1, 20, 0);
        Check.denied("25 the quorum comes first", board, 10, 0, () -> board.decide());
        board.vote(1, 16, true);
        board.vote(2, 16, true);
        Check.denied("25 seventeenth", board, 1, 16, () -> board.decide());
        Check.is("27 sixteen stay sixteen", board.rulingCount(), 16);
        Check.is("25 still pending", board.pendingCount(), 1);
    }

    private static void rulingQuestions() {
        PetitionBoard board = Boards.ready(3, 1);
        Check.is("27 none", board.rulingCount(), 0);
        Boards.rule(board, true);
        Boards.rule(board, false);
        Boards.rule(board, true);
        Boards.rule(board, true, 2, 0, 1);
        Check.is("27 four", board.rulingCount(), 4);
        Check.is("28 ruling 0", board.isGranted(0), true);
        Check.is("28 ruling 1", board.isGranted(1), false);
        Check.is("29 ruling 0", board.isCarriedOut(0), true);
        Check.is("29 ruling 1", board.isCarriedOut(1), false);
        Check.is("30 none", board.citationCount(0), 0);
        Check.is("30 three", board.citationCount(3), 3);
        Check.is("31 position 0", board.citation(3, 0), 2);
        Check.is("31 position 1", board.citation(3, 1), 0);
        Check.is("31 position 2", board.citation(3, 2), 1);
        Check.absent("31 position 3", () -> board.citation(3, 3));
        Check.absent("31 position -1", () -> board.citation(3, -1));
        Check.absent("31 no citations", () -> board.citation(0, 0));
        Check.outside("31 ruling comes before position", () -> board.citation(4, 9));
        Check.is("32 once", board.citedBy(2), 1);
        Check.is("32 never", board.citedBy(3), 0);
        Boards.rule(board, true, 2);
        Check.is("32 twice", board.citedBy(2), 2);
    }

    /** 1 cites 0, 2 cites 1, 4 cites 3, 5 cites 2 and 3, 6 cites none. */
    private static void precedents() {
        PetitionBoard board = Boards.ready(3, 1);
        Boards.rule(board, true);
        Boards.rule(board, true, 0);
        Boards.rule(board, true, 1);
        Boards.rule(board, true);
        Boards.rule(board, true, 3);
        Boards.rule(board, true, 3, 2);
        Boards.rule(board, true);
        int[] depths = {0, 1, 2, 0, 1, 3, 0};
        int[] influences = {3, 2, 1, 2, 0, 0, 0};
        int[] cited = {1, 1, 1, 2, 0, 0, 0};
        String[] based = {"", "0", "01", "", "3", "0123", ""};
        for (int i = 0; i < 7; i++) {
            Check.is("33 ruling " + i, board.depth(i), depths[i]);
            Check.is("35 ruling " + i, board.influence(i), influences[i]);
            Check.is("36 ruling " + i, board.influenceByMarking(i), influences[i]);
            Check.is("32 ruling " + i, board.citedBy(i), cited[i]);
            for (int j = 0; j < 7; j++) {
                boolean due = based[i].indexOf((char) ('0' + j)) >= 0;
                Check.is("34 ruling " + i + " on " + j, board.isBasedOn(i, j), due);
            }
        }
    }

    private static void longChain() {
        PetitionBoard board = Boards.ready(3, 1);
        Boards.rule(board, true);
        Boards.rule(board, true, 0);
        Boards.rule(board, true, 1, 0);
        for (int i = 3; i < 16; i++) {
            Boards.rule(board, true, i - 3, i - 1, i - 2);
        }
        Check.is("33 the deepest", board.depth(15), 15);
        Check.is("34 the last on the first", board.isBasedOn(15, 0), true);
        Check.is("34 the first on the last", board.isBasedOn(0, 15), false);
        Check.is("34 the last on itself", board.isBasedOn(15, 15), false);
        Check.is("35 the first", board.influence(0), 15);
        Check.is("36 the first", board.influenceByMarking(0), 15);
        Check.is("37 last rank", board.rulingByInfluence(15), 15);
    }

    private static void rulingByInfluence() {
        PetitionBoard board = Boards.ready(3, 1);
        Check.absent("37 no rulings", () -> board.rulingByInfluence(0));
        Boards.rule(board, true);
        Boards.rule(board, true);
        Boards.rule(board, true, 1);
        Boards.rule(board, true, 2);
        Boards.rule(board, true, 0);
        int[] due = {1, 0, 2, 3, 4};
        for (int i = 0; i < due.length; i++) {
            Check.is("37 rank " + i, board.rulingByInfluence(i), due[i]);
        }
        Check.absent("37 rank 5", () -> board.rulingByInfluence(5));
        Check.absent("37 rank -1", () -> board.rulingByInfluence(-1));
        Check.absent("37 rank 16", () -> board.rulingByInfluence(16));
    }

    private static void wrongRulings() {
        PetitionBoard board = Boards.ready(3, 1);
        Boards.rule(board, true);
        for (int wrong : new int[] {-1, 1, 16, Integer.MAX_VALUE, Integer.MIN_VALUE}) {
            Check.outside("28 ruling " + wrong, () -> board.isGranted(wrong));
            Check.outside("29 ruling " + wrong, () -> board.isCarriedOut(wrong));
            Check.outside("30 ruling " + wrong, () -> board.citationCount(wrong));
            Check.outside("31 ruling " + wrong, () -> board.citation(wrong, 0));
            Check.outside("32 ruling " + wrong, () -> board.citedBy(wrong));
            Check.outside("33 ruling " + wrong, () -> board.depth(wrong));
            Check.outside("34 ruling " + wrong, () -> board.isBasedOn(wrong, 0));
            Check.outside("34 other " + wrong, () -> board.isBasedOn(0, wrong));
            Check.outside("34 both " + wrong, () -> board.isBasedOn(wrong, wrong));
            Check.outside("35 ruling " + wrong, () -> board.influence(wrong));
            Check.outside("36 ruling " + wrong, () -> board.influenceByMarking(wrong));
        }
    }
}
