/** Promises 38 to 43: each sentence that names an edge. */
public final class StatisticsEdgesTest {
    private static final Scene EMPTY = new Scene(() -> new PetitionBoard());
    private static final Scene BUSY = new Scene(() -> Boards.busy());
    private static final Scene FULL = new Scene(() -> Boards.full());
    private static final Scene QUEUE = new Scene(() -> Boards.filePetitions(Boards.ready(6, 10), 8));

    public static void main(String[] args) {
        filedCount();
        filedCountIsTheSum();
        vetoes();
        withdrawals();
        movedWeight();
        movedWeightNotMoved();
        meanVotesNone();
        meanVotes();
        meanVotesIsNoWholeNumber();
        grantedShareNone();
        grantedShare();
        Check.end();
    }

    /** 38: "Returns the number of petitions" filed so far, from none. */
    private static void filedCount() {
        EMPTY.answers("38 none", 0, b -> b.filedCount());
        QUEUE.answers("38 eight", 8, b -> b.filedCount());
        QUEUE.afterRefused(b -> b.file(0, 8, 20, 0)).answers("38 the ninth was refused", 8, b -> b.filedCount());
        QUEUE.afterRefused(b -> b.file(0, 8, 25, 0)).answers("38 a wrong cell", 8, b -> b.filedCount());
        QUEUE.afterRefused(b -> b.file(0, 8, 20, 10)).answers("38 a wrong urgency", 8, b -> b.filedCount());
        QUEUE.after(b -> b.undo()).answers("38 undone", 7, b -> b.filedCount());
        QUEUE.after(b -> b.withdraw(0)).answers("38 withdrawn ones count", 8, b -> b.filedCount());
        QUEUE.after(b -> b.withdraw(0), b -> b.file(0, 8, 20, 0)).answers("38 nine", 9, b -> b.filedCount());
        BUSY.answers("38 at a busy board", 10, b -> b.filedCount());
        FULL.answers("38 at a full board", 24, b -> b.filedCount());
    }

    /** 38: "it always equals the sum of the pending petitions, the rulings, the vetoes and the withdrawals". */
    private static void filedCountIsTheSum() {
        PetitionBoard board = Boards.addStones(Boards.withOfficers(5, 6, 7), 5);
        for (int round = 0; round < 7; round++) {
            int petition = board.file(0, 0, 20, 5);
            sum("filed", board);
            if (round % 3 == 0) {
                board.withdraw(petition);
            } else if (round % 3 == 1) {
                board.veto(1, petition);
            } else {
                board.vote(1, petition, false);
                board.vote(2, petition, false);
                board.decide();
            }
            sum("ended", board);
            Check.denied("38 refused", board, 9, board.rulingCount(), () -> board.decide());
            sum("after a refused call", board);
            board.undo();
            sum("undone", board);
            if (board.pendingCount() == 1) {
                board.withdraw(petition);
            }
        }
        sum("busy", Boards.busy());
        sum("full", Boards.full());
    }

    private static void sum(String what, PetitionBoard board) {
        Check.is("38 the sum, " + what, board.filedCount(),
                board.pendingCount() + board.rulingCount() + board.vetoes() + board.withdrawals());
    }

    /** 39: "Returns the number of vetoes" so far, from none. */
    private static void vetoes() {
        EMPTY.answers("39 none", 0, b -> b.vetoes());
        BUSY.answers("39 at a busy board", 1, b -> b.vetoes());
        BUSY.after(b -> b.veto(4, 9)).answers("39 two", 2, b -> b.vetoes());
        BUSY.after(b -> b.veto(4, 9)).afterRefused(b -> b.veto(4, 9))
                .answers("39 a petition twice", 2, b -> b.vetoes());
        BUSY.after(b -> b.veto(4, 9), b -> b.undo()).answers("39 undone", 1, b -> b.vetoes());
        BUSY.afterRefused(b -> b.veto(3, 9)).answers("39 denied", 1, b -> b.vetoes());
        BUSY.afterRefused(b -> b.veto(5, 9)).answers("39 no such officer", 1, b -> b.vetoes());
        BUSY.after(b -> b.withdraw(9)).answers("39 a withdrawal is none", 1, b -> b.vetoes());
        BUSY.after(b -> b.veto(4, 9), b -> b.restoreSnapshot()).answers("39 restored", 0, b -> b.vetoes());
    }

    /** 40: "Returns the number of petitions" withdrawn so far, from none. */
    private static void withdrawals() {
        EMPTY.answers("40 none", 0, b -> b.withdrawals());
        BUSY.answers("40 at a busy board", 3, b -> b.withdrawals());
        BUSY.after(b -> b.withdraw(9)).answers("40 four", 4, b -> b.withdrawals());
        BUSY.after(b -> b.withdraw(9)).afterRefused(b -> b.withdraw(9))
                .answers("40 a petition twice", 4, b -> b.withdrawals());
        BUSY.after(b -> b.withdraw(9), b -> b.undo()).answers("40 undone", 3, b -> b.withdrawals());
        BUSY.afterRefused(b -> b.withdraw(10)).answers("40 no such petition", 3, b -> b.withdrawals());
        BUSY.after(b -> b.veto(4, 9)).answers("40 a veto is none", 3, b -> b.withdrawals());
        BUSY.after(b -> b.restoreSnapshot()).answers("40 restored", 0, b -> b.withdrawals());
    }

    /** 41: "counted for each move", with the least and the greatest weight. */
    private static void movedWeight() {
        EMPTY.answers("41 none", 0, b -> b.movedWeight());
        for (int weight : new int[] {1, 9}) {
            Scene scene = new Scene(() -> Boards.ready(3, 0)).after(b -> b.addStone(0, weight));
            scene.answers("41 no move", 0, b -> b.movedWeight());
            for (int moves : Edges.within(1, 16)) {
                scene = scene.after(b -> Boards.rule(b, true));
                scene.answers("41 moves " + moves, weight * moves, b -> b.movedWeight());
            }
            scene.afterRefused(b -> Boards.rule(b, true))
                    .answers("41 no seventeenth", weight * 16, b -> b.movedWeight());
            scene.after(b -> b.undo()).answers("41 undone", weight * 15, b -> b.movedWeight());
        }
        Scene two = new Scene(() -> Boards.ready(3, 9)).after(b -> Boards.rule(b, true), b -> b.file(0, 8, 20, 0),
                b -> b.vote(1, 1, true), b -> b.vote(2, 1, true), b -> b.decide());
        two.answers("41 each stone with its own weight", 10, b -> b.movedWeight());
    }

    private static void movedWeightNotMoved() {
        Scene scene = new Scene(() -> Boards.ready(3, 2));
        scene.after(b -> Boards.rule(b, false)).answers("41 not granted", 0, b -> b.movedWeight());
        scene.after(b -> b.addStone(24, 9), b -> Boards.rule(b, true))
                .answers("41 an occupied cell", 0, b -> b.movedWeight());
        scene.after(b -> b.file(0, 1, 24, 0), b -> b.withdraw(0)).answers("41 withdrawn", 0, b -> b.movedWeight());
    }

    /** 42: "Throws ArithmeticException if no petition is pending". */
    private static void meanVotesNone() {
        EMPTY.arithmetic("42 the empty board", b -> b.meanVotes());
        Scene one = new Scene(() -> Boards.filePetitions(Boards.addStones(Boards.withOfficers(5, 6, 7), 2), 1));
        one.answers("42 one", 0.0, b -> b.meanVotes());
        one.after(b -> b.withdraw(0)).arithmetic("42 withdrawn", b -> b.meanVotes());
        one.after(b -> b.veto(1, 0)).arithmetic("42 vetoed", b -> b.meanVotes());
        one.after(b -> b.undo()).arithmetic("42 undone", b -> b.meanVotes());
        one.after(b -> b.vote(1, 0, true), b -> b.vote(2, 0, true), b -> b.decide())
                .arithmetic("42 decided", b -> b.meanVotes());
        one.after(b -> b.withdraw(0), b -> b.undo()).answers("42 a withdrawal undone", 0.0, b -> b.meanVotes());
    }

    /** 42: from no votes to five on each of eight petitions, for and against. */
    private static void meanVotes() {
        for (int votes : Edges.within(0, 5)) {
            Scene scene = QUEUE;
            for (int officer : Edges.within(1, votes)) {
                scene = scene.after(b -> voteOnEach(b, officer));
            }
            scene.answers("42 each has " + votes, (double) votes, b -> b.meanVotes());
        }
        Scene cited = new Scene(() -> Boards.withRulings(1)).after(b -> b.file(0, 1, 20, 0), b -> b.cite(1, 0));
        cited.answers("42 citations are no votes", 0.0, b -> b.meanVotes());
        BUSY.answers("42 at a busy board", 1.0, b -> b.meanVotes());
    }

    private static Object voteOnEach(PetitionBoard board, int officer) {
        for (int petition = 0; petition < 8; petition++) {
            board.vote(officer, petition, (petition + officer) % 2 == 0);
        }
        return null;
    }

    /** 42: "the sum converted to double, divided by their number converted to double". */
    private static void meanVotesIsNoWholeNumber() {
        for (int petitions : Edges.within(1, 8)) {
            Scene scene = new Scene(() -> Boards.filePetitions(Boards.ready(6, 10), petitions));
            for (int votes : Edges.within(1, 5)) {
                scene = scene.after(b -> b.vote(votes, petitions - 1, votes % 2 == 0));
                double due = (double) votes / (double) petitions;
                scene.answers("42 votes " + votes + " of " + petitions, due, b -> b.meanVotes());
            }
            scene.afterRefused(b -> b.vote(5, petitions - 1, true))
                    .answers("42 after a refused vote", 5.0 / petitions, b -> b.meanVotes());
        }
    }

    /** 43: "Throws ArithmeticException if there are no rulings". */
    private static void grantedShareNone() {
        EMPTY.arithmetic("43 the empty board", b -> b.grantedShare());
        QUEUE.arithmetic("43 petitions are no rulings", b -> b.grantedShare());
        new Scene(() -> Boards.withRulings(1)).after(b -> b.undo()).arithmetic("43 undone", b -> b.grantedShare());
    }

    /** 43: "both numbers converted to float", from none of sixteen to all. */
    private static void grantedShare() {
        for (int rulings : Edges.within(1, 16)) {
            for (int granted : new int[] {0, 1, rulings / 2, rulings - 1, rulings}) {
                PetitionBoard board = Boards.ready(3, 1);
                for (int i = 0; i < rulings; i++) {
                    Boards.rule(board, i < granted);
                }
                float due = (float) granted / (float) rulings;
                Check.is("43 granted " + granted + " of " + rulings, board.grantedShare(), due);
            }
        }
        Scene stays = new Scene(() -> Boards.ready(3, 1)).after(b -> b.addStone(24, 1), b -> Boards.rule(b, true));
        stays.answers("43 granted, though not carried out", 1.0f, b -> b.grantedShare());
        BUSY.answers("43 at a busy board", 2.0f / 3.0f, b -> b.grantedShare());
        FULL.answers("43 at a full board", 11.0f / 16.0f, b -> b.grantedShare());
    }
}
