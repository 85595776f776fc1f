import java.util.Arrays;

/** Promises 1 to 10: each sentence that names an edge. */
public final class StonesAndOfficersEdgesTest {
    private static final Scene EMPTY = new Scene(() -> new PetitionBoard());
    private static final Scene BUSY = new Scene(() -> Boards.busy());
    private static final Scene FULL = new Scene(() -> Boards.full());

    public static void main(String[] args) {
        newBoardCounts();
        newBoardHasNothing();
        newBoardIsNotAnOlderOne();
        addStoneCells();
        addStoneWeights();
        addStoneOrder();
        addStoneOccupied();
        addStoneLimit();
        addOfficerRanks();
        addOfficerLimit();
        stoneCount();
        stoneIndices();
        stoneQuestionsAfterAMove();
        stoneIn();
        officerCount();
        officerIndices();
        petitionsOf();
        petitionsOfPendingOnly();
        Check.end();
    }

    /** 1: "Creates an empty board without officers, petitions and rulings"; the quorum is "initially 2". */
    private static void newBoardCounts() {
        EMPTY.answers("1 stoneCount", 0, b -> b.stoneCount());
        EMPTY.answers("1 officerCount", 0, b -> b.officerCount());
        EMPTY.answers("1 pendingCount", 0, b -> b.pendingCount());
        EMPTY.answers("1 quorum", 2, b -> b.quorum());
        EMPTY.answers("1 rulingCount", 0, b -> b.rulingCount());
        EMPTY.answers("1 filedCount", 0, b -> b.filedCount());
        EMPTY.answers("1 vetoes", 0, b -> b.vetoes());
        EMPTY.answers("1 withdrawals", 0, b -> b.withdrawals());
        EMPTY.answers("1 movedWeight", 0, b -> b.movedWeight());
        EMPTY.answers("1 undoCount", 0, b -> b.undoCount());
        EMPTY.changes("1 the first stone", 0, b -> b.addStone(0, 1));
        EMPTY.changes("1 the first officer", 0, b -> b.addOfficer(1));
    }

    private static void newBoardHasNothing() {
        for (int row : Edges.within(0, 4)) {
            EMPTY.writes("1 row " + row, ".....", b -> b.writeRow(row));
        }
        for (int cell : Edges.within(0, 24)) {
            EMPTY.absent("1 stoneIn " + cell, b -> b.stoneIn(cell));
        }
        EMPTY.arithmetic("1 meanVotes", b -> b.meanVotes());
        EMPTY.arithmetic("1 grantedShare", b -> b.grantedShare());
        EMPTY.nothingKept("1 faultPosition", b -> b.faultPosition());
        EMPTY.nothingKept("1 denial", b -> b.denial());
        EMPTY.nothingKept("1 denialDetail", b -> b.denialDetail());
        EMPTY.nothingKept("1 denialCause", b -> b.denialCause());
        EMPTY.nothingKept("1 denialCauseDetail", b -> b.denialCauseDetail());
        EMPTY.illegalState("1 undo", b -> b.undo());
        EMPTY.noSnapshot("1 restoreSnapshot", b -> b.restoreSnapshot());
        EMPTY.denied("1 decide", 9, 0, b -> b.decide());
        EMPTY.textFault("", 0);
    }

    private static void newBoardIsNotAnOlderOne() {
        PetitionBoard older = Boards.full();
        String before = Boards.lookAtTheRest(older);
        PetitionBoard board = new PetitionBoard();
        Check.is("1 empty beside a full one", Boards.look(board), Boards.look(new PetitionBoard()));
        Check.outside("1 no output line of another board", () -> board.lineCharacter(0));
        Check.is("1 no text of another board", board.feed('x'), 1);
        Check.illegalState("1 no snapshot of another board", () -> board.restoreSnapshot());
        Check.illegalState("1 no change of another board", () -> board.undo());
        board.addOfficer(1);
        board.addStone(20, 1);
        Check.is("1 the full one stays", Boards.lookAtTheRest(older), before);
    }

    /** 2: "the cell, 0 to 24"; "Throws IndexOutOfBoundsException if there is no such cell". */
    private static void addStoneCells() {
        for (int cell : Edges.within(0, 24)) {
            EMPTY.changes("2 cell " + cell, 0, b -> b.addStone(cell, 5));
            EMPTY.after(b -> b.addStone(cell, 5)).answers("2 lies in cell " + cell, 0, b -> b.stoneIn(cell));
        }
        for (int cell : Edges.beyond(0, 24)) {
            EMPTY.outside("2 cell " + cell, b -> b.addStone(cell, 5));
            BUSY.outside("2 cell " + cell, b -> b.addStone(cell, 5));
        }
    }

    /** 2: "the weight, 1 to 9"; "Throws IllegalArgumentException if the weight is out of range". */
    private static void addStoneWeights() {
        for (int weight : Edges.within(1, 9)) {
            EMPTY.changes("2 weight " + weight, 0, b -> b.addStone(12, weight));
            EMPTY.after(b -> b.addStone(12, weight)).answers("2 weighs " + weight, weight, b -> b.weightOf(0));
        }
        for (int weight : Edges.beyond(1, 9)) {
            EMPTY.unfit("2 weight " + weight, b -> b.addStone(12, weight));
            BUSY.unfit("2 weight " + weight, b -> b.addStone(12, weight));
        }
    }

    /** 2: cell, then weight, then "denied: 2, 1 (10 stones)". */
    private static void addStoneOrder() {
        for (int cell : Edges.beyond(0, 24)) {
            FULL.outside("2 cell " + cell + " comes before the weight", b -> b.addStone(cell, 10));
            FULL.outside("2 cell " + cell + " comes before the limit", b -> b.addStone(cell, 9));
        }
        for (int weight : Edges.beyond(1, 9)) {
            FULL.unfit("2 weight " + weight + " comes before an occupied cell", b -> b.addStone(1, weight));
            FULL.unfit("2 weight " + weight + " comes before the limit", b -> b.addStone(20, weight));
        }
        FULL.denied("2 an occupied cell comes before the limit", 2, 9, b -> b.addStone(9, 1));
    }

    /** Denial 2: "the cell is occupied; the detail is the index of the stone in it". */
    private static void addStoneOccupied() {
        Scene last = new Scene(() -> new PetitionBoard()).after(b -> b.addStone(24, 1));
        last.denied("2 cell 24 is occupied", 2, 0, b -> b.addStone(24, 9));
        last.changes("2 cell 23 is not", 1, b -> b.addStone(23, 9));
        Scene ten = new Scene(() -> Boards.ready(0, 10));
        for (int cell : Edges.within(0, 9)) {
            ten.denied("2 cell " + cell + " is occupied", 2, cell, b -> b.addStone(cell, 1));
        }
        Scene moved = new Scene(() -> Boards.ready(3, 2)).after(b -> Boards.rule(b, true));
        moved.denied("2 the cell to which a stone was moved", 2, 0, b -> b.addStone(24, 1));
        moved.changes("2 the cell that it left", 2, b -> b.addStone(0, 1));
        moved.after(b -> b.undo()).denied("2 the cell to which it is moved back", 2, 0, b -> b.addStone(0, 1));
        moved.after(b -> b.undo()).changes("2 the cell from which it is moved back", 2, b -> b.addStone(24, 1));
    }

    /** Denial 1: "a limit is reached; the detail is the limit", here 10 stones. */
    private static void addStoneLimit() {
        Scene nine = new Scene(() -> Boards.ready(0, 9));
        nine.changes("2 the tenth", 9, b -> b.addStone(24, 9));
        Scene ten = nine.after(b -> b.addStone(24, 9));
        ten.denied("2 the eleventh", 1, 10, b -> b.addStone(20, 9));
        Scene refused = ten.afterRefused(b -> b.addStone(20, 9));
        refused.denied("2 the eleventh once more", 1, 10, b -> b.addStone(20, 9));
        refused.answers("2 there are ten", 10, b -> b.stoneCount());
        refused.absent("2 the refused one lies nowhere", b -> b.stoneIn(20));
        refused.after(b -> b.undo()).changes("2 the tenth again", 9, b -> b.addStone(20, 3));
        refused.after(b -> b.undo(), b -> b.addStone(20, 3)).denied("2 ten again", 1, 10, b -> b.addStone(24, 9));
        FULL.denied("2 the limit at a full board", 1, 10, b -> b.addStone(22, 1));
    }

    /** 3: "the rank, 1 to 9"; "Throws IllegalArgumentException if the rank is out of range". */
    private static void addOfficerRanks() {
        for (int rank : Edges.within(1, 9)) {
            EMPTY.changes("3 rank " + rank, 0, b -> b.addOfficer(rank));
            EMPTY.after(b -> b.addOfficer(rank)).answers("3 has rank " + rank, rank, b -> b.rankOf(0));
        }
        for (int rank : Edges.beyond(1, 9)) {
            EMPTY.unfit("3 rank " + rank, b -> b.addOfficer(rank));
            BUSY.unfit("3 rank " + rank, b -> b.addOfficer(rank));
            FULL.unfit("3 rank " + rank + " comes before the limit", b -> b.addOfficer(rank));
        }
    }

    /** 3: "denied: 1 (6 officers)". */
    private static void addOfficerLimit() {
        Scene five = new Scene(() -> Boards.ready(5, 0));
        five.changes("3 the sixth", 5, b -> b.addOfficer(5));
        Scene six = five.after(b -> b.addOfficer(5));
        six.denied("3 the seventh", 1, 6, b -> b.addOfficer(1));
        Scene refused = six.afterRefused(b -> b.addOfficer(1));
        refused.denied("3 the seventh once more", 1, 6, b -> b.addOfficer(9));
        refused.answers("3 there are six", 6, b -> b.officerCount());
        refused.after(b -> b.undo()).changes("3 the sixth again", 5, b -> b.addOfficer(9));
        FULL.denied("3 the limit at a full board", 1, 6, b -> b.addOfficer(1));
    }

    /** 4: "Returns the number of stones", from none to ten. */
    private static void stoneCount() {
        for (int stones : Edges.within(0, 10)) {
            new Scene(() -> Boards.ready(0, stones)).answers("4 stones " + stones, stones, b -> b.stoneCount());
        }
        BUSY.answers("4 at a busy board", 6, b -> b.stoneCount());
        BUSY.afterRefused(b -> b.addStone(9, 10)).answers("4 after a refused stone", 6, b -> b.stoneCount());
        BUSY.after(b -> b.addStone(9, 9)).answers("4 after one more", 7, b -> b.stoneCount());
        BUSY.after(b -> b.addStone(9, 9), b -> b.undo()).answers("4 after its undo", 6, b -> b.stoneCount());
        FULL.afterRefused(b -> b.addStone(22, 1)).answers("4 after the eleventh", 10, b -> b.stoneCount());
    }

    /** 5, 6: "Throws IndexOutOfBoundsException if there is no such stone". */
    private static void stoneIndices() {
        for (int stones : new int[] {0, 1, 9, 10}) {
            Scene scene = new Scene(() -> Boards.ready(0, stones));
            for (int stone : Edges.within(0, stones - 1)) {
                scene.answers("5 stone " + stone + " of " + stones, stone, b -> b.cellOf(stone));
                scene.answers("6 stone " + stone + " of " + stones, stone % 9 + 1, b -> b.weightOf(stone));
            }
            for (int stone : Edges.beyond(0, stones - 1)) {
                scene.outside("5 stone " + stone + " of " + stones, b -> b.cellOf(stone));
                scene.outside("6 stone " + stone + " of " + stones, b -> b.weightOf(stone));
            }
        }
        Scene fewer = new Scene(() -> Boards.ready(0, 10)).after(b -> b.undo());
        fewer.outside("5 a stone that was undone", b -> b.cellOf(9));
        fewer.outside("6 a stone that was undone", b -> b.weightOf(9));
        FULL.outside("5 a refused stone", b -> b.cellOf(10));
        FULL.outside("6 a refused stone", b -> b.weightOf(10));
    }

    private static void stoneQuestionsAfterAMove() {
        Scene moved = new Scene(() -> Boards.ready(3, 2)).after(b -> Boards.rule(b, true));
        moved.answers("5 the cell to which it was moved", 24, b -> b.cellOf(0));
        moved.answers("5 another stone stays", 1, b -> b.cellOf(1));
        moved.answers("6 the weight stays", 1, b -> b.weightOf(0));
        moved.answers("7 the cell to which it was moved", 0, b -> b.stoneIn(24));
        moved.absent("7 the cell that it left", b -> b.stoneIn(0));
        Scene back = moved.after(b -> b.undo());
        back.answers("5 undone", 0, b -> b.cellOf(0));
        back.answers("7 undone", 0, b -> b.stoneIn(0));
        back.absent("7 undone, the other cell", b -> b.stoneIn(24));
    }

    /** 7: "the cell, 0 to 24"; no such cell; "no stone is in the cell". */
    private static void stoneIn() {
        for (int cell : Edges.within(0, 24)) {
            Scene one = EMPTY.after(b -> b.addStone((cell + 1) % 25, 1), b -> b.addStone(cell, 1));
            one.answers("7 cell " + cell, 1, b -> b.stoneIn(cell));
            one.absent("7 the cell before " + cell, b -> b.stoneIn((cell + 24) % 25));
        }
        for (int cell : Edges.beyond(0, 24)) {
            EMPTY.outside("7 cell " + cell, b -> b.stoneIn(cell));
            FULL.outside("7 cell " + cell, b -> b.stoneIn(cell));
        }
        FULL.answers("7 the last stone of ten", 9, b -> b.stoneIn(9));
    }

    /** 8: "Returns the number of officers", from none to six. */
    private static void officerCount() {
        for (int officers : Edges.within(0, 6)) {
            new Scene(() -> Boards.ready(officers, 0))
                    .answers("8 officers " + officers, officers, b -> b.officerCount());
        }
        BUSY.afterRefused(b -> b.addOfficer(0)).answers("8 after a refused officer", 5, b -> b.officerCount());
        BUSY.after(b -> b.addOfficer(1)).answers("8 after one more", 6, b -> b.officerCount());
        BUSY.after(b -> b.addOfficer(1), b -> b.undo()).answers("8 after its undo", 5, b -> b.officerCount());
        FULL.afterRefused(b -> b.addOfficer(1)).answers("8 after the seventh", 6, b -> b.officerCount());
    }

    /** 9, 10: "Throws IndexOutOfBoundsException if there is no such officer". */
    private static void officerIndices() {
        int[] ranks = {9, 1, 8, 2, 7, 3};
        for (int officers : new int[] {0, 1, 5, 6}) {
            Scene scene = new Scene(() -> Boards.withOfficers(Arrays.copyOf(ranks, officers)));
            for (int officer : Edges.within(0, officers - 1)) {
                scene.answers("9 officer " + officer, ranks[officer], b -> b.rankOf(officer));
                scene.answers("10 officer " + officer, 0, b -> b.petitionsOf(officer));
            }
            for (int officer : Edges.beyond(0, officers - 1)) {
                scene.outside("9 officer " + officer + " of " + officers, b -> b.rankOf(officer));
                scene.outside("10 officer " + officer + " of " + officers, b -> b.petitionsOf(officer));
            }
        }
        Scene fewer = new Scene(() -> Boards.ready(6, 0)).after(b -> b.undo());
        fewer.outside("9 an officer who was undone", b -> b.rankOf(5));
        fewer.outside("10 an officer who was undone", b -> b.petitionsOf(5));
    }

    /** 10: "Returns the number of pending petitions of an officer", from none to the full queue. */
    private static void petitionsOf() {
        for (int petitions : Edges.within(0, 8)) {
            Scene scene = new Scene(() -> Boards.filePetitions(Boards.ready(2, 10), petitions));
            scene.answers("10 petitions " + petitions, petitions, b -> b.petitionsOf(0));
            scene.answers("10 another officer's", 0, b -> b.petitionsOf(1));
        }
        for (int officer : Edges.within(0, 5)) {
            FULL.answers("10 officer " + officer, officer < 2 ? 2 : 1, b -> b.petitionsOf(officer));
        }
        Scene refused = new Scene(() -> Boards.filePetitions(Boards.ready(2, 10), 8))
                .afterRefused(b -> b.file(1, 8, 20, 0));
        refused.answers("10 the ninth was refused", 0, b -> b.petitionsOf(1));
        refused.answers("10 the eight stay", 8, b -> b.petitionsOf(0));
    }

    private static void petitionsOfPendingOnly() {
        Scene two = new Scene(() -> Boards.filePetitions(Boards.addStones(Boards.withOfficers(5, 5, 6), 3), 2));
        two.after(b -> b.withdraw(1)).answers("10 after a withdrawal", 1, b -> b.petitionsOf(0));
        two.after(b -> b.veto(2, 0)).answers("10 after a veto", 1, b -> b.petitionsOf(0));
        two.afterRefused(b -> b.veto(1, 0)).answers("10 after a denied veto", 2, b -> b.petitionsOf(0));
        two.after(b -> b.veto(2, 0)).answers("10 a veto does not make it the officer's", 0, b -> b.petitionsOf(2));
        Scene decided = two.after(b -> b.vote(1, 0, false), b -> b.vote(2, 0, false), b -> b.decide());
        decided.answers("10 after a decision", 1, b -> b.petitionsOf(0));
        decided.after(b -> b.undo()).answers("10 after its undo", 2, b -> b.petitionsOf(0));
        decided.after(b -> b.withdraw(1)).answers("10 none any more", 0, b -> b.petitionsOf(0));
    }
}
