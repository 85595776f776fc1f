/** Promises 17 to 23: each sentence that names an edge. */
public final class QueueEdgesTest {
    private static final Scene EMPTY = new Scene(() -> new PetitionBoard());
    private static final Scene BUSY = new Scene(() -> Boards.busy());
    private static final Scene FULL = new Scene(() -> Boards.full());
    /** Numbers below the next one that are not pending at a busy board, and the next one. */
    private static final int[] GONE = {0, 1, 2, 3, 4, 5, 8, 10};

    public static void main(String[] args) {
        positions();
        positionsOfPetitions();
        eachPairOfPetitions();
        fullQueueInEachDirection();
        equalRanksAndUrgencies();
        queueAfterSomeHaveLeft();
        unknownNumbers();
        numbersThatAreNotPending();
        stonesAndTargets();
        votes();
        wouldBeGrantedByVotesAndCitations();
        wouldBeGrantedByWhatWasNotCarriedOut();
        wouldBeGrantedWhateverElse();
        Check.end();
    }

    /** 17: "the position, from 0"; "Throws NoSuchElementException if there is no such position". */
    private static void positions() {
        for (int petitions : Edges.within(0, 8)) {
            Scene scene = new Scene(() -> Boards.filePetitions(Boards.ready(1, 10), petitions));
            for (int position : Edges.within(0, petitions - 1)) {
                scene.answers("17 position " + position, position, b -> b.petitionAt(position));
            }
            for (int position : Edges.beyond(0, petitions - 1)) {
                scene.absent("17 position " + position + " of " + petitions, b -> b.petitionAt(position));
            }
        }
        EMPTY.absent("17 the empty board", b -> b.petitionAt(0));
        FULL.afterRefused(b -> b.file(0, 8, 22, 9)).absent("17 a refused petition", b -> b.petitionAt(8));
        FULL.after(b -> b.undo(), b -> b.withdraw(16)).absent("17 the queue is shorter", b -> b.petitionAt(7));
    }

    /** 18: "computed as the number of petitions that come before it". */
    private static void positionsOfPetitions() {
        for (int position : Edges.within(0, 7)) {
            FULL.answers("18 petition " + (23 - position), position, b -> b.positionOf(23 - position));
            FULL.answers("17 position " + position, 23 - position, b -> b.petitionAt(position));
        }
        int[] queue = {7, 9, 6};
        for (int position : Edges.within(0, 2)) {
            BUSY.answers("18 at a busy board", position, b -> b.positionOf(queue[position]));
        }
    }

    /** "the higher rank comes first; among equal ranks, the one with the greater urgency; then the smaller number". */
    private static void eachPairOfPetitions() {
        for (int rank : new int[] {1, 5, 8, 9}) {
            for (int otherRank : new int[] {1, 5, 8, 9}) {
                for (int urgency : new int[] {0, 1, 8, 9}) {
                    for (int otherUrgency : new int[] {0, 1, 8, 9}) {
                        boolean isFirst = rank > otherRank || rank == otherRank && urgency >= otherUrgency;
                        pair(rank, urgency, otherRank, otherUrgency, isFirst ? 0 : 1, 0);
                        pair(rank, urgency, otherRank, otherUrgency, isFirst ? 0 : 1, 1);
                    }
                }
            }
        }
    }

    /** The first petition has the officer, the stone and the cell with the index, the second one the others. */
    private static void pair(int rank, int urgency, int otherRank, int otherUrgency, int first, int index) {
        int[] ranks = index == 0 ? new int[] {rank, otherRank} : new int[] {otherRank, rank};
        PetitionBoard board = Boards.addStones(Boards.withOfficers(ranks), 2);
        board.file(index, index, 20 + index, urgency);
        board.file(1 - index, 1 - index, 21 - index, otherUrgency);
        String what = rank + "!" + urgency + " and " + otherRank + "!" + otherUrgency;
        Check.is("17 first of " + what, board.petitionAt(0), first);
        Check.is("17 last of " + what, board.petitionAt(1), 1 - first);
        Check.is("18 first of " + what, board.positionOf(first), 0);
        Check.is("18 last of " + what, board.positionOf(1 - first), 1);
    }

    /** Eight petitions that come from the last to the first, from the first to the last, or both in turn. */
    private static void fullQueueInEachDirection() {
        int[][] urgencies = {{0, 1, 2, 3, 4, 5, 6, 9}, {9, 8, 7, 6, 5, 4, 3, 0}, {4, 5, 3, 6, 2, 7, 1, 8},
            {5, 5, 5, 5, 5, 5, 5, 5}, {0, 9, 0, 9, 0, 9, 0, 9}};
        int[][] due = {{7, 6, 5, 4, 3, 2, 1, 0}, {0, 1, 2, 3, 4, 5, 6, 7}, {7, 5, 3, 1, 0, 2, 4, 6},
            {0, 1, 2, 3, 4, 5, 6, 7}, {1, 3, 5, 7, 0, 2, 4, 6}};
        for (int run = 0; run < urgencies.length; run++) {
            PetitionBoard board = Boards.ready(1, 8);
            for (int i = 0; i < 8; i++) {
                board.file(0, i, 20, urgencies[run][i]);
            }
            queue("queue " + run, board, due[run]);
        }
    }

    private static void queue(String what, PetitionBoard board, int... due) {
        for (int i = 0; i < due.length; i++) {
            Check.is("17 " + what + ", position " + i, board.petitionAt(i), due[i]);
            Check.is("18 " + what + ", petition " + due[i], board.positionOf(due[i]), i);
        }
    }

    /** ".. then the one with the smaller number", though all else of the petitions comes the other way round. */
    private static void equalRanksAndUrgencies() {
        PetitionBoard board = Boards.withRulings(3);
        for (int i = 0; i < 8; i++) {
            board.file((14 - i) % 6, 9 - i, 21 - i, 5);
        }
        queue("equal petitions", board, 3, 4, 5, 6, 7, 8, 9, 10);
        for (int i = 1; i < 8; i++) {
            for (int officer = 0; officer < Math.min(i, 6); officer++) {
                if (officer != (14 - i) % 6) {
                    board.vote(officer, 3 + i, true);
                }
            }
            for (int ruling = 0; ruling < Math.min(i, 3); ruling++) {
                board.cite(3 + i, ruling);
            }
        }
        queue("equal petitions with votes and citations", board, 3, 4, 5, 6, 7, 8, 9, 10);
    }

    /** Those that come later move up; the next petition finds its place among them. */
    private static void queueAfterSomeHaveLeft() {
        Scene less = FULL.after(b -> b.withdraw(23), b -> b.withdraw(16), b -> b.withdraw(19));
        int[] left = {22, 21, 20, 18, 17};
        for (int position : Edges.within(0, 4)) {
            less.answers("17 what is left at " + position, left[position], b -> b.petitionAt(position));
            less.answers("18 what is left: " + left[position], position, b -> b.positionOf(left[position]));
        }
        Scene more = less.after(b -> b.file(0, 8, 20, 4));
        int[] longer = {22, 21, 20, 24, 18, 17};
        for (int position : Edges.within(0, 5)) {
            more.answers("17 with the next one at " + position, longer[position], b -> b.petitionAt(position));
        }
    }

    /** 18 to 23: "Throws NoSuchElementException if no pending petition has this number". */
    private static void unknownNumbers() {
        for (int petition : Edges.beyond(16, 23)) {
            absent("petition " + petition + " of 16 to 23", FULL, petition);
        }
        for (int petition : Edges.beyond(0, -1)) {
            absent("petition " + petition + " of none", EMPTY, petition);
        }
    }

    private static void numbersThatAreNotPending() {
        for (int petition : GONE) {
            absent("petition " + petition + ", which is not pending", BUSY, petition);
        }
        absent("petition 9, undone", BUSY.after(b -> Boards.undo(b, 6)), 9);
        absent("petition 9, withdrawn", BUSY.after(b -> b.withdraw(9)), 9);
        absent("petition 9, vetoed", BUSY.after(b -> b.veto(4, 9)), 9);
        absent("petition 7, decided", BUSY.after(b -> b.decide()), 7);
    }

    private static void absent(String what, Scene scene, int petition) {
        scene.absent("18 " + what, b -> b.positionOf(petition));
        scene.absent("19 " + what, b -> b.stoneOf(petition));
        scene.absent("20 " + what, b -> b.targetOf(petition));
        scene.absent("21 " + what, b -> b.votesFor(petition));
        scene.absent("22 " + what, b -> b.votesAgainst(petition));
        scene.absent("23 " + what, b -> b.wouldBeGranted(petition));
    }

    /** 19, 20: the first and the last stone, the first and the last cell. */
    private static void stonesAndTargets() {
        PetitionBoard board = Boards.ready(1, 10);
        board.file(0, 9, 0, 0);
        board.file(0, 0, 24, 0);
        Check.is("19 the last stone", board.stoneOf(0), 9);
        Check.is("19 the first stone", board.stoneOf(1), 0);
        Check.is("20 the first cell", board.targetOf(0), 0);
        Check.is("20 the last cell", board.targetOf(1), 24);
        for (int petition : Edges.within(16, 23)) {
            FULL.answers("19 petition " + petition, petition - 16, b -> b.stoneOf(petition));
            FULL.answers("20 petition " + petition, 20, b -> b.targetOf(petition));
        }
    }

    /** 21, 22: "Returns the number of votes, without citations", from none to five. */
    private static void votes() {
        for (int votes : Edges.within(0, 5)) {
            PetitionBoard board = Boards.withRulings(1);
            board.file(0, 8, 20, 0);
            board.file(0, 9, 20, 0);
            board.cite(1, 0);
            board.cite(2, 0);
            for (int officer = 1; officer <= votes; officer++) {
                board.vote(officer, 1, true);
                board.vote(officer, 2, false);
            }
            Check.is("21 votes for " + votes, board.votesFor(1), votes);
            Check.is("22 votes for " + votes, board.votesAgainst(1), 0);
            Check.is("21 votes against " + votes, board.votesFor(2), 0);
            Check.is("22 votes against " + votes, board.votesAgainst(2), votes);
        }
        FULL.answers("21 all have voted", 2, b -> b.votesFor(23));
        FULL.answers("22 all have voted", 3, b -> b.votesAgainst(23));
        FULL.afterRefused(b -> b.vote(5, 23, true)).answers("21 after a refused vote", 2, b -> b.votesFor(23));
        FULL.afterRefused(b -> b.vote(5, 23, false)).answers("22 after a refused vote", 3, b -> b.votesAgainst(23));
    }

    /**
     * "The petition is granted if the votes for it plus the number of cited rulings that are granted are more than
     * the votes against it plus the number of cited rulings that are not granted": each possible number of each.
     */
    private static void wouldBeGrantedByVotesAndCitations() {
        for (int votes = 0; votes <= 5; votes++) {
            for (int votesFor = 0; votesFor <= votes; votesFor++) {
                for (int cited = 0; cited <= 3; cited++) {
                    for (int granted = 0; granted <= cited; granted++) {
                        granted(votesFor, votes - votesFor, granted, cited - granted);
                    }
                }
            }
        }
    }

    private static void granted(int votesFor, int votesAgainst, int granted, int notGranted) {
        PetitionBoard board = Boards.ready(6, 2);
        for (int i = 0; i < 6; i++) {
            Boards.rule(board, i % 2 == 0);
        }
        int petition = board.file(0, 1, 20, 0);
        for (int officer = 1; officer <= votesFor + votesAgainst; officer++) {
            board.vote(officer, petition, officer <= votesFor);
        }
        for (int i = 0; i < granted; i++) {
            board.cite(petition, 2 * i);
        }
        for (int i = 0; i < notGranted; i++) {
            board.cite(petition, 2 * i + 1);
        }
        boolean due = votesFor + granted > votesAgainst + notGranted;
        String what = "+" + votesFor + "-" + votesAgainst + " and rulings +" + granted + "-" + notGranted;
        Check.is("23 " + what, board.wouldBeGranted(petition), due);
        if (votesFor + votesAgainst > 0) {
            board.setQuorum(1);
            Check.is("25 " + what, board.decide(), 6);
            Check.is("28 " + what, board.isGranted(6), due);
            Check.is("29 " + what, board.isCarriedOut(6), due);
        }
    }

    /** "the number of cited rulings that are granted": also of those that were not carried out. */
    private static void wouldBeGrantedByWhatWasNotCarriedOut() {
        Scene scene = new Scene(() -> Boards.ready(6, 2)).after(b -> b.addStone(24, 1), b -> Boards.rule(b, true),
                b -> b.file(0, 1, 20, 0), b -> b.cite(1, 0));
        scene.answers("29 the cell was occupied", false, b -> b.isCarriedOut(0));
        scene.answers("23 by its citation alone", true, b -> b.wouldBeGranted(1));
        Scene tied = scene.after(b -> b.vote(1, 1, false));
        tied.answers("23 a vote against it", false, b -> b.wouldBeGranted(1));
        Scene decided = tied.after(b -> b.vote(2, 1, true), b -> b.decide());
        decided.answers("28 a vote for it, too", true, b -> b.isGranted(1));
    }

    /** 23: "if it was decided now, whatever its position and the quorum are". */
    private static void wouldBeGrantedWhateverElse() {
        Scene one = new Scene(() -> Boards.filePetitions(Boards.ready(6, 10), 8)).after(b -> b.vote(1, 7, true));
        one.answers("23 the last of the queue, one vote", true, b -> b.wouldBeGranted(7));
        one.answers("23 the first of the queue, no vote", false, b -> b.wouldBeGranted(0));
        one.after(b -> b.setQuorum(5)).answers("23 at the greatest quorum", true, b -> b.wouldBeGranted(7));
        one.after(b -> b.setQuorum(1)).answers("23 at the least quorum", true, b -> b.wouldBeGranted(7));
        FULL.after(b -> b.vote(0, 17, true)).answers("23 with sixteen rulings", true, b -> b.wouldBeGranted(17));
        one.after(b -> b.undo()).answers("23 the vote undone", false, b -> b.wouldBeGranted(7));
        Scene occupied = new Scene(() -> Boards.ready(6, 2)).after(b -> b.file(0, 0, 1, 0), b -> b.file(0, 1, 20, 0),
                b -> b.vote(1, 0, true), b -> b.vote(1, 1, true), b -> b.addStone(20, 1));
        occupied.answers("23 for an occupied cell", true, b -> b.wouldBeGranted(0));
        occupied.answers("23 for a cell that was occupied later", true, b -> b.wouldBeGranted(1));
    }
}
