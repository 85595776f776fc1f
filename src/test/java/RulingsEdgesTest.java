/** Promises 24 to 31: each sentence that names an edge. */
public final class RulingsEdgesTest {
    private static final Scene EMPTY = new Scene(() -> new PetitionBoard());
    private static final Scene BUSY = new Scene(() -> Boards.busy());
    private static final Scene FULL = new Scene(() -> Boards.full());
    /** Sixteen rulings and one petition with two votes, which waits for a seventeenth. */
    private static final Scene SIXTEEN = new Scene(() -> Boards.withRulings(16)).after(b -> b.file(0, 9, 20, 0),
            b -> b.vote(1, 16, true), b -> b.vote(2, 16, true));

    public static void main(String[] args) {
        setQuorumRange();
        setQuorumPresent();
        setQuorumOrder();
        quorum();
        decideNonePending();
        decideQuorum();
        decideFewOfficers();
        decideBothKindsOfVotes();
        decideLimit();
        decideOrder();
        decideFirst();
        decideMoves();
        decideOccupied();
        decideEndsPending();
        rulingCount();
        rulingNumbers();
        grantedAndCarriedOut();
        citationCounts();
        citationPositions();
        citationOrder();
        Check.end();
    }

    /** 24: "the quorum, 1 to 5"; "Throws IllegalArgumentException if the quorum is out of range"; the one before. */
    private static void setQuorumRange() {
        for (int before : Edges.within(1, 5)) {
            Scene scene = new Scene(() -> Boards.withQuorum(new PetitionBoard(), before));
            for (int quorum : Edges.within(1, 5)) {
                if (quorum != before) {
                    scene.changes("24 quorum " + quorum + " after " + before, before, b -> b.setQuorum(quorum));
                    scene.after(b -> b.setQuorum(quorum)).answers("26 quorum " + quorum, quorum, b -> b.quorum());
                }
            }
        }
        for (int quorum : Edges.beyond(1, 5)) {
            EMPTY.unfit("24 quorum " + quorum, b -> b.setQuorum(quorum));
            BUSY.unfit("24 quorum " + quorum, b -> b.setQuorum(quorum));
            FULL.unfit("24 quorum " + quorum, b -> b.setQuorum(quorum));
        }
    }

    /** Denial 11: "the value is the present one; the detail is this value". */
    private static void setQuorumPresent() {
        EMPTY.denied("24 the first quorum", 11, 2, b -> b.setQuorum(2));
        for (int quorum : Edges.within(1, 5)) {
            Scene scene = new Scene(() -> Boards.withQuorum(new PetitionBoard(), quorum));
            scene.denied("24 quorum " + quorum + " is the present one", 11, quorum, b -> b.setQuorum(quorum));
            scene.afterRefused(b -> b.setQuorum(quorum))
                    .denied("24 quorum " + quorum + " once more", 11, quorum, b -> b.setQuorum(quorum));
        }
        Scene undone = EMPTY.after(b -> b.setQuorum(5), b -> b.undo());
        undone.changes("24 an undone quorum is not the present one", 2, b -> b.setQuorum(5));
        undone.denied("24 the one before it is again", 11, 2, b -> b.setQuorum(2));
    }

    private static void setQuorumOrder() {
        EMPTY.after(b -> b.setQuorum(5)).unfit("24 out of range beside the greatest", b -> b.setQuorum(6));
        EMPTY.after(b -> b.setQuorum(1)).unfit("24 out of range beside the least", b -> b.setQuorum(0));
    }

    /** 26: "Returns the quorum", "initially 2". */
    private static void quorum() {
        EMPTY.answers("26 initially", 2, b -> b.quorum());
        EMPTY.afterRefused(b -> b.setQuorum(6)).answers("26 after a quorum out of range", 2, b -> b.quorum());
        EMPTY.afterRefused(b -> b.setQuorum(0)).answers("26 after a quorum out of range", 2, b -> b.quorum());
        EMPTY.afterRefused(b -> b.setQuorum(2)).answers("26 after a denied quorum", 2, b -> b.quorum());
        EMPTY.after(b -> b.setQuorum(5), b -> b.undo()).answers("26 undone", 2, b -> b.quorum());
        EMPTY.after(b -> b.saveSnapshot(), b -> b.setQuorum(5), b -> b.restoreSnapshot())
                .answers("26 restored", 2, b -> b.quorum());
    }

    /** Denial 9: "no petition is pending; the detail is the number of rulings". */
    private static void decideNonePending() {
        for (int rulings : Edges.within(0, 16)) {
            new Scene(() -> Boards.withRulings(rulings))
                    .denied("25 none pending, rulings " + rulings, 9, rulings, b -> b.decide());
        }
        BUSY.after(b -> b.withdraw(7), b -> b.withdraw(9), b -> b.withdraw(6))
                .denied("25 none pending any more", 9, 3, b -> b.decide());
    }

    /** "It needs at least as many votes as the quorum"; denial 10: "the detail is the number of votes". */
    private static void decideQuorum() {
        for (int quorum : Edges.within(1, 5)) {
            Scene scene = new Scene(() -> Boards.withQuorum(Boards.filePetitions(Boards.ready(6, 2), 1), quorum));
            for (int votes : Edges.within(0, 5)) {
                String what = "25 quorum " + quorum + ", votes " + votes;
                if (votes < quorum) {
                    scene.denied(what, 10, votes, b -> b.decide());
                    scene.afterRefused(b -> b.decide()).denied(what + ", once more", 10, votes, b -> b.decide());
                } else {
                    scene.changes(what, 0, b -> b.decide());
                }
                scene = scene.after(b -> b.vote(votes + 1, 0, true));
            }
        }
    }

    /** A quorum that the officers cannot reach is no smaller for that. */
    private static void decideFewOfficers() {
        for (int officers : Edges.within(1, 5)) {
            Scene scene = new Scene(() -> Boards.withQuorum(Boards.ready(officers, 1), officers))
                    .after(b -> b.file(0, 0, 20, 0));
            for (int officer : Edges.within(1, officers - 1)) {
                scene = scene.after(b -> b.vote(officer, 0, true));
            }
            scene.denied("25 quorum and officers " + officers, 10, officers - 1, b -> b.decide());
        }
    }

    /** Votes for and against are votes; citations are none. */
    private static void decideBothKindsOfVotes() {
        Scene scene = new Scene(() -> Boards.withRulings(3)).after(b -> b.file(0, 9, 20, 0));
        scene.after(b -> b.vote(1, 3, false)).denied("25 one against", 10, 1, b -> b.decide());
        scene.after(b -> b.setQuorum(4), b -> b.vote(1, 3, true), b -> b.vote(2, 3, false), b -> b.vote(3, 3, false))
                .denied("25 one for, two against", 10, 3, b -> b.decide());
        scene.after(b -> b.vote(1, 3, true), b -> b.vote(2, 3, false)).changes("25 both", 3, b -> b.decide());
        scene.after(b -> b.vote(1, 3, false), b -> b.vote(2, 3, false)).changes("25 against", 3, b -> b.decide());
        Scene cited = scene.after(b -> b.cite(3, 0), b -> b.cite(3, 1), b -> b.cite(3, 2));
        cited.denied("25 citations alone", 10, 0, b -> b.decide());
        cited.after(b -> b.vote(1, 3, true)).denied("25 citations and one vote", 10, 1, b -> b.decide());
    }

    /** Denial 1 with the limit of 16 rulings. */
    private static void decideLimit() {
        Scene fifteen = new Scene(() -> Boards.withRulings(15)).after(b -> b.file(0, 9, 20, 0),
                b -> b.vote(1, 15, true), b -> b.vote(2, 15, true));
        fifteen.changes("25 the sixteenth", 15, b -> b.decide());
        SIXTEEN.denied("25 the seventeenth", 1, 16, b -> b.decide());
        Scene refused = SIXTEEN.afterRefused(b -> b.decide());
        refused.denied("25 the seventeenth once more", 1, 16, b -> b.decide());
        refused.answers("25 the petition is still pending", 0, b -> b.positionOf(16));
        refused.answers("25 its stone is not moved", 9, b -> b.cellOf(9));
        FULL.denied("25 the limit at a full board", 1, 16, b -> b.decide());
        Scene room = fifteen.after(b -> b.decide()).afterRefused(b -> b.decide()).after(b -> b.undo());
        room.changes("25 room after an undo", 15, b -> b.decide());
    }

    /** 25: "denied: 9, 10, 1 (16 rulings)". */
    private static void decideOrder() {
        new Scene(() -> Boards.withRulings(16)).denied("25 none pending comes before the limit", 9, 16,
                b -> b.decide());
        SIXTEEN.after(b -> b.undo()).denied("25 the quorum comes before the limit", 10, 1, b -> b.decide());
        SIXTEEN.after(b -> b.undo(), b -> b.undo()).denied("25 no votes come before the limit", 10, 0,
                b -> b.decide());
    }

    /** "A decision is always about the first petition of the queue". */
    private static void decideFirst() {
        Scene scene = new Scene(() -> Boards.filePetitions(Boards.ready(6, 10), 8)).after(b -> b.vote(1, 7, true),
                b -> b.vote(2, 7, true), b -> b.vote(1, 0, true));
        scene.denied("25 the votes of the last do not count", 10, 1, b -> b.decide());
        Scene first = scene.after(b -> b.vote(2, 0, true));
        first.changes("25 the first", 0, b -> b.decide());
        first.after(b -> b.decide()).absent("25 it is the first that is decided", b -> b.stoneOf(0));
        first.after(b -> b.decide()).answers("25 the last is pending", 6, b -> b.positionOf(7));
        BUSY.changes("25 the first of a busy board", 3, b -> b.decide());
        BUSY.after(b -> b.decide()).absent("25 it is decided", b -> b.positionOf(7));
    }

    /** "If it is granted and no stone is in the cell for which it asks, the stone is moved there". */
    private static void decideMoves() {
        for (int cell : new int[] {0, 12, 24}) {
            Scene scene = new Scene(() -> Boards.ready(3, 0)).after(b -> b.addStone(3, 9),
                    b -> b.file(0, 0, cell, 0), b -> b.vote(1, 0, true), b -> b.vote(2, 0, true), b -> b.decide());
            scene.answers("25 moved to cell " + cell, cell, b -> b.cellOf(0));
            scene.answers("25 found in cell " + cell, 0, b -> b.stoneIn(cell));
            scene.absent("25 no longer in its cell", b -> b.stoneIn(3));
            scene.answers("25 carried out", true, b -> b.isCarriedOut(0));
        }
    }

    /** Granted for an occupied cell: a ruling, but no move; a cell that was left is not occupied. */
    private static void decideOccupied() {
        Scene two = new Scene(() -> Boards.ready(3, 2)).after(b -> b.file(0, 0, 1, 9), b -> b.vote(1, 0, true),
                b -> b.vote(2, 0, true));
        two.changes("25 an occupied cell", 0, b -> b.decide());
        Scene decided = two.after(b -> b.decide());
        decided.answers("25 the stone stays", 0, b -> b.cellOf(0));
        decided.answers("25 the other stays", 1, b -> b.cellOf(1));
        decided.answers("25 granted", true, b -> b.isGranted(0));
        decided.answers("25 not carried out", false, b -> b.isCarriedOut(0));
        decided.answers("25 nothing was moved", 0, b -> b.movedWeight());
        decided.answers("25 no longer pending", 0, b -> b.pendingCount());
        decided.absent("25 no longer known", b -> b.stoneOf(0));
        decided.changes("25 its stone can be asked for again", 1, b -> b.file(0, 0, 1, 9));
        Scene left = new Scene(() -> Boards.ready(3, 2)).after(b -> b.file(0, 1, 20, 9), b -> b.file(0, 0, 1, 0),
                b -> b.vote(1, 0, true), b -> b.vote(2, 0, true), b -> b.vote(1, 1, true), b -> b.vote(2, 1, true),
                b -> b.decide(), b -> b.decide());
        left.answers("25 the cell was left before", 1, b -> b.cellOf(0));
        left.answers("25 carried out", true, b -> b.isCarriedOut(1));
    }

    /** "which is no longer pending afterwards"; "In any case the decision becomes a ruling". */
    private static void decideEndsPending() {
        for (boolean isGranted : new boolean[] {true, false}) {
            Scene scene = new Scene(() -> Boards.filePetitions(Boards.ready(6, 3), 2))
                    .after(b -> b.vote(1, 0, isGranted), b -> b.vote(2, 0, isGranted), b -> b.decide());
            scene.answers("25 one is left", 1, b -> b.pendingCount());
            scene.answers("25 the other is first", 1, b -> b.petitionAt(0));
            scene.answers("25 a ruling", 1, b -> b.rulingCount());
            scene.answers("25 no veto", 0, b -> b.vetoes());
            scene.answers("25 no withdrawal", 0, b -> b.withdrawals());
            scene.answers("28 granted or not", isGranted, b -> b.isGranted(0));
            scene.answers("29 carried out or not", isGranted, b -> b.isCarriedOut(0));
        }
    }

    /** 27: "Returns the number of rulings", from none to sixteen. */
    private static void rulingCount() {
        for (int rulings : Edges.within(0, 16)) {
            new Scene(() -> Boards.withRulings(rulings))
                    .answers("27 rulings " + rulings, rulings, b -> b.rulingCount());
        }
        SIXTEEN.afterRefused(b -> b.decide()).answers("27 after a refused decision", 16, b -> b.rulingCount());
        new Scene(() -> Boards.withRulings(16)).after(b -> b.undo())
                .answers("27 after an undo", 15, b -> b.rulingCount());
        BUSY.after(b -> b.veto(4, 9)).answers("27 after a veto", 3, b -> b.rulingCount());
    }

    /** 28 to 31: "Throws IndexOutOfBoundsException if there is no such ruling". */
    private static void rulingNumbers() {
        for (int rulings : new int[] {0, 1, 15, 16}) {
            Scene scene = new Scene(() -> Boards.withRulings(rulings));
            for (int ruling : Edges.within(0, rulings - 1)) {
                scene.answers("28 ruling " + ruling, true, b -> b.isGranted(ruling));
                scene.answers("29 ruling " + ruling, true, b -> b.isCarriedOut(ruling));
                scene.answers("30 ruling " + ruling, 0, b -> b.citationCount(ruling));
                scene.absent("31 ruling " + ruling, b -> b.citation(ruling, 0));
            }
            for (int ruling : Edges.beyond(0, rulings - 1)) {
                String what = " ruling " + ruling + " of " + rulings;
                scene.outside("28" + what, b -> b.isGranted(ruling));
                scene.outside("29" + what, b -> b.isCarriedOut(ruling));
                scene.outside("30" + what, b -> b.citationCount(ruling));
                scene.outside("31" + what, b -> b.citation(ruling, 0));
            }
        }
        Scene undone = new Scene(() -> Boards.withRulings(1)).after(b -> b.undo());
        undone.outside("28 undone", b -> b.isGranted(0));
        undone.outside("29 undone", b -> b.isCarriedOut(0));
        undone.outside("30 undone", b -> b.citationCount(0));
        undone.outside("31 undone", b -> b.citation(0, 0));
    }

    /** 28, 29: "Returns whether the stone was moved", though it was moved on later. */
    private static void grantedAndCarriedOut() {
        for (int ruling : Edges.within(0, 15)) {
            boolean isGranted = ruling % 3 != 1;
            FULL.answers("28 ruling " + ruling, isGranted, b -> b.isGranted(ruling));
            FULL.answers("29 ruling " + ruling, isGranted, b -> b.isCarriedOut(ruling));
        }
    }

    /** 30: "Returns the number of rulings, 0 to 3". */
    private static void citationCounts() {
        for (int ruling : Edges.within(0, 15)) {
            FULL.answers("30 ruling " + ruling, Math.min(ruling, 3), b -> b.citationCount(ruling));
        }
    }

    /** 31: "in the order in which they were cited"; "the position, from 0"; no such position. */
    private static void citationPositions() {
        for (int ruling : Edges.within(3, 15)) {
            int[] cited = {ruling - 1, ruling - 3, ruling - 2};
            for (int position : Edges.within(0, 2)) {
                FULL.answers("31 ruling " + ruling + ", position " + position, cited[position],
                        b -> b.citation(ruling, position));
            }
        }
        for (int count : Edges.within(0, 3)) {
            for (int position : Edges.beyond(0, count - 1)) {
                FULL.absent("31 position " + position + " of " + count, b -> b.citation(count, position));
            }
        }
        for (int position : Edges.beyond(0, 2)) {
            FULL.absent("31 position " + position + " of the last ruling", b -> b.citation(15, position));
        }
    }

    private static void citationOrder() {
        for (int ruling : Edges.beyond(0, 15)) {
            FULL.outside("31 ruling " + ruling + " comes before the position", b -> b.citation(ruling, 3));
            FULL.outside("31 ruling " + ruling + " comes before the position", b -> b.citation(ruling, -1));
        }
        EMPTY.outside("31 neither", b -> b.citation(0, 0));
    }
}
