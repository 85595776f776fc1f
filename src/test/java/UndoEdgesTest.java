import java.util.Arrays;

/** Promises 54 to 57: each sentence that names an edge. */
public final class UndoEdgesTest {
    private static final Scene EMPTY = new Scene(() -> new PetitionBoard());
    private static final Scene BUSY = new Scene(() -> Boards.busy());
    private static final Scene FULL = new Scene(() -> Boards.full());
    private static final Scene START = new Scene(() -> Boards.ready(3, 7));
    /** Changes of the board at the start, and others that lead to something else in each regard. */
    private static final Scene.Call[] LIFE = {b -> b.addOfficer(1), b -> b.addStone(9, 2), b -> b.file(0, 0, 13, 2),
        b -> b.vote(1, 0, true), b -> b.vote(2, 0, true), b -> b.decide(), b -> b.file(1, 1, 10, 3),
        b -> b.cite(1, 0), b -> b.vote(0, 1, false), b -> b.vote(2, 1, false), b -> b.decide(),
        b -> b.addOfficer(9), b -> b.file(3, 2, 20, 9), b -> b.cite(2, 1), b -> b.vote(0, 2, true),
        b -> b.file(4, 1, 21, 5), b -> b.cite(3, 0), b -> b.vote(3, 3, false), b -> b.addStone(17, 4)};
    private static final Scene.Call[] OTHER_LIFE = {b -> b.addOfficer(8), b -> b.addStone(8, 7),
        b -> b.file(0, 1, 12, 9), b -> b.vote(1, 0, false), b -> b.vote(2, 0, false), b -> b.decide(),
        b -> b.file(2, 0, 8, 7), b -> b.vote(0, 1, true), b -> b.vote(1, 1, true), b -> b.decide(),
        b -> b.addStone(7, 6), b -> b.addOfficer(2), b -> b.file(4, 1, 22, 4), b -> b.cite(2, 0), b -> b.cite(2, 1),
        b -> b.vote(1, 2, false), b -> b.file(3, 3, 23, 8), b -> b.vote(4, 3, true), b -> b.setQuorum(5)};

    public static void main(String[] args) {
        nothingToUndo();
        undoCounts();
        theForgottenChange();
        forgottenOverAndOver();
        undoOfAForgottenOne();
        whatIsNoChange();
        eachKindOfChange();
        textOfNoDifference();
        undoLeavesTheRest();
        numbersAreUndone();
        noSnapshot();
        saveSnapshotAnswers();
        saveSnapshotIsNoChange();
        saveSnapshotReplaces();
        restoreSnapshotAnswers();
        restoreSnapshotEndsUndo();
        snapshotIsKept();
        snapshotLeavesTheRest();
        everythingIsSaved();
        ranksAreRestored();
        snapshotOfTheFullBoard();
        undoInAnotherLife();
        snapshotOfAnotherLife();
        eachRulingOfAnotherLife();
        eachStoneOfAnotherLife();
        Check.end();
    }

    /** 54: "Throws IllegalStateException if there is none". */
    private static void nothingToUndo() {
        EMPTY.illegalState("54 a new board", b -> b.undo());
        EMPTY.afterRefused(b -> b.undo()).illegalState("54 once more", b -> b.undo());
        EMPTY.after(b -> b.addOfficer(1), b -> b.undo()).illegalState("54 undone", b -> b.undo());
        EMPTY.afterRefused(b -> b.addOfficer(0)).illegalState("54 after a refused call", b -> b.undo());
        EMPTY.afterRefused(b -> b.setQuorum(2)).illegalState("54 after a denied call", b -> b.undo());
        BUSY.after(b -> Boards.undo(b, 8)).illegalState("54 after eight undos", b -> b.undo());
        FULL.after(b -> Boards.undo(b, 8)).illegalState("54 after eight undos of a full board", b -> b.undo());
        BUSY.after(b -> b.restoreSnapshot()).illegalState("54 after a snapshot", b -> b.undo());
    }

    /** The n-th of some changes; each leads to another state. */
    private static Object change(PetitionBoard board, int n) {
        return board.setQuorum(n % 5 + 1 == board.quorum() ? board.quorum() % 5 + 1 : n % 5 + 1);
    }

    private static PetitionBoard changed(int changes) {
        PetitionBoard board = new PetitionBoard();
        for (int n = 0; n < changes; n++) {
            change(board, n);
        }
        return board;
    }

    /** 54, 55: "Returns the number of changes that can be undone", none to eight. */
    private static void undoCounts() {
        for (int changes : Edges.within(0, 20)) {
            Scene scene = new Scene(() -> changed(changes));
            int due = Math.min(changes, 8);
            scene.answers("55 after changes " + changes, due, b -> b.undoCount());
            PetitionBoard board = changed(changes);
            for (int left = due - 1; left >= 0; left--) {
                Check.is("54 changes " + changes + ", left " + left, board.undo(), left);
                Check.is("55 changes " + changes + ", left " + left, board.undoCount(), left);
                Check.is("54 back to " + (changes - due + left), board.quorum(),
                        changed(changes - due + left).quorum());
            }
            Check.illegalState("54 changes " + changes + ", none left", () -> board.undo());
            Check.is("55 after a refused undo", board.undoCount(), 0);
            Check.is("54 a refused undo changes nothing", board.quorum(), changed(changes - due).quorum());
        }
    }

    /** "The latest 8 changes can be undone; older ones are forgotten." */
    private static void theForgottenChange() {
        Scene eight = EMPTY.after(b -> b.addOfficer(9));
        for (int stone : Edges.within(0, 6)) {
            eight = eight.after(b -> b.addStone(stone, 1));
        }
        eight.answers("55 eight", 8, b -> b.undoCount());
        Scene all = eight.after(b -> Boards.undo(b, 8));
        all.answers("54 the first of eight is undone", 0, b -> b.officerCount());
        Scene nine = eight.after(b -> b.addStone(7, 1));
        nine.answers("55 nine", 8, b -> b.undoCount());
        Scene back = nine.after(b -> Boards.undo(b, 8));
        back.answers("54 the first of nine is not undone", 1, b -> b.officerCount());
        back.answers("54 the second is", 0, b -> b.stoneCount());
        back.illegalState("54 the first of nine is forgotten", b -> b.undo());
        back.changes("54 a change after it", 0, b -> b.addStone(20, 2));
        // A refused call forgets nothing.
        Scene refused = eight.afterRefused(b -> b.addStone(0, 1), b -> b.addOfficer(0), b -> b.addStone(25, 1));
        refused.after(b -> Boards.undo(b, 8)).answers("54 after refused calls", 0, b -> b.officerCount());
    }

    private static void forgottenOverAndOver() {
        PetitionBoard board = new PetitionBoard();
        int made = 0;
        for (int round = 0; round < 12; round++) {
            for (int i = 0; i <= round; i++) {
                change(board, made);
                made++;
            }
            Check.is("55 round " + round, board.undoCount(), Math.min(made, 8));
        }
        PetitionBoard same = changed(made - 8);
        Boards.undo(board, 8);
        Check.is("54 eight back", board.quorum(), same.quorum());
        Check.illegalState("54 no further", () -> board.undo());
    }

    /** What an undo makes room for is not brought back by a change: the forgotten one stays forgotten. */
    private static void undoOfAForgottenOne() {
        PetitionBoard board = changed(9);
        board.undo();
        Check.is("55 seven", board.undoCount(), 7);
        board.addOfficer(3);
        Check.is("55 eight again", board.undoCount(), 8);
        Check.is("54 the last of them", Boards.undo(board, 8), "0");
        Check.is("54 back after the first change", board.quorum(), changed(1).quorum());
        Check.illegalState("54 the first one is forgotten", () -> board.undo());
    }

    /** Questions, lines, characters, snapshots and all that is refused are no changes. */
    private static void whatIsNoChange() {
        Scene.Call[] calls = {b -> b.stoneCount(), b -> b.cellOf(0), b -> b.weightOf(9), b -> b.stoneIn(1),
            b -> b.officerCount(), b -> b.rankOf(5), b -> b.petitionsOf(0), b -> b.pendingCount(),
            b -> b.petitionAt(0), b -> b.positionOf(16), b -> b.stoneOf(16), b -> b.targetOf(16),
            b -> b.votesFor(23), b -> b.votesAgainst(23), b -> b.wouldBeGranted(23), b -> b.quorum(),
            b -> b.rulingCount(), b -> b.isGranted(0), b -> b.isCarriedOut(0), b -> b.citationCount(15),
            b -> b.citation(15, 2), b -> b.citedBy(0), b -> b.depth(15), b -> b.isBasedOn(15, 0),
            b -> b.influence(0), b -> b.influenceByMarking(0), b -> b.rulingByInfluence(0), b -> b.filedCount(),
            b -> b.vetoes(), b -> b.withdrawals(), b -> b.movedWeight(), b -> b.meanVotes(),
            b -> b.grantedShare(), b -> b.undoCount(), b -> b.faultPosition(), b -> b.lineCharacter(0),
            b -> b.denial(), b -> b.denialDetail(), b -> b.denialCause(), b -> b.denialCauseDetail()};
        for (int i = 0; i < calls.length; i++) {
            FULL.changesNothing("55 question " + i, calls[i]);
            BUSY.changesNothing("55 question " + i, calls[i]);
            EMPTY.changesNothing("55 question " + i, calls[i]);
        }
        FULL.afterRefused(b -> b.execute()).answers("55 a fault", 8, b -> b.undoCount());
        FULL.after(b -> b.writeRow(0), b -> b.writePetition(16)).answers("55 lines", 8, b -> b.undoCount());
        EMPTY.after(b -> b.feed('x')).afterRefused(b -> b.execute()).after(b -> b.saveSnapshot(), b -> b.writeRow(0))
                .answers("55 none of these is a change", 0, b -> b.undoCount());
    }

    /** "The calls of the methods to which commands correspond, and of execute, .. are the changes." */
    private static void eachKindOfChange() {
        Scene clear = BUSY.afterRefused(b -> b.execute());
        for (Scene scene : new Scene[] {BUSY, clear}) {
            scene.changes("54 addStone", 6, b -> b.addStone(10, 9));
            scene.changes("54 addOfficer", 5, b -> b.addOfficer(1));
            scene.changes("54 setQuorum", 2, b -> b.setQuorum(5));
            scene.changes("54 file", 10, b -> b.file(2, 4, 10, 9));
            scene.changes("54 vote for", 2, b -> b.vote(0, 6, true));
            scene.changes("54 vote against", 2, b -> b.vote(0, 6, false));
            scene.changes("54 cite", 3, b -> b.cite(7, 1));
            scene.changes("54 veto", 2, b -> b.veto(4, 7));
            scene.changes("54 withdraw", 2, b -> b.withdraw(7));
            scene.changes("54 decide", 3, b -> b.decide());
        }
        clear.changes("54 execute", 3, b -> Boards.execute(b, "withdraw 6;quorum 1;decide"));
    }

    /** The calls "of execute, that do not throw an exception are the changes": also one that leaves all as it was. */
    private static void textOfNoDifference() {
        Scene text = EMPTY.after(b -> Boards.execute(b, "quorum 3;quorum 2"));
        text.answers("55 the quorum there and back", 1, b -> b.undoCount());
        Check.is("54 the quorum there and back", text.make().undo(), 0);
        Scene nine = new Scene(() -> changed(8)).after(b -> Boards.execute(b, "quorum 4;quorum 5;quorum 3"));
        nine.after(b -> b.undo()).answers("54 all is as it was", 3, b -> b.quorum());
        nine.after(b -> Boards.undo(b, 8)).answers("54 the first of nine is forgotten", changed(1).quorum(),
                b -> b.quorum());
    }

    /** "The text buffer, the fault position, the output line and the latest denial are affected neither by undo" */
    private static void undoLeavesTheRest() {
        PetitionBoard board = Boards.busy();
        String line = Boards.line(board);
        String denial = Boards.denial(board);
        Boards.undo(board, 8);
        Check.is("54 the line", Boards.line(board), line);
        Check.is("54 the denial", Boards.denial(board), denial);
        Check.is("54 the fault position", board.faultPosition(), 8);
        Check.is("54 the text", board.feed('9'), 8);
        Check.denied("54 the text is executed", board, 12, 0, () -> board.execute());
    }

    /** "The number of the next petition is undone and restored, too." */
    private static void numbersAreUndone() {
        BUSY.after(b -> b.file(2, 4, 10, 0), b -> b.undo()).changes("54 the number again", 10,
                b -> b.file(2, 5, 11, 0));
        BUSY.after(b -> b.withdraw(9), b -> b.undo()).changes("54 the next number", 10, b -> b.file(2, 4, 10, 0));
        Scene restored = BUSY.after(b -> b.restoreSnapshot());
        restored.changes("57 the number of the snapshot", 1, b -> b.file(2, 4, 10, 0));
        restored.after(b -> b.file(2, 4, 10, 0), b -> b.restoreSnapshot())
                .changes("57 the number of the snapshot again", 1, b -> b.file(2, 4, 10, 0));
    }

    /** 57: "Throws IllegalStateException if there is no snapshot"; then nothing is restored or forgotten. */
    private static void noSnapshot() {
        EMPTY.noSnapshot("57 a new board", b -> b.restoreSnapshot());
        EMPTY.afterRefused(b -> b.restoreSnapshot()).noSnapshot("57 once more", b -> b.restoreSnapshot());
        Scene eight = new Scene(() -> Boards.ready(3, 5));
        eight.noSnapshot("57 with eight changes", b -> b.restoreSnapshot());
        eight.afterRefused(b -> b.restoreSnapshot()).answers("57 nothing is forgotten", 8, b -> b.undoCount());
        EMPTY.after(b -> b.saveSnapshot()).answers("57 the empty snapshot", 0, b -> b.restoreSnapshot());
    }

    /** 56: "Returns the number of pending petitions", none to eight. */
    private static void saveSnapshotAnswers() {
        for (int petitions : Edges.within(0, 8)) {
            PetitionBoard board = Boards.filePetitions(Boards.ready(1, 10), petitions);
            Check.is("56 petitions " + petitions, board.saveSnapshot(), petitions);
            for (int i = 0; i < petitions; i++) {
                board.withdraw(i);
            }
            Check.is("57 petitions " + petitions, board.restoreSnapshot(), petitions);
            Check.is("57 they are pending", board.pendingCount(), petitions);
        }
    }

    /** Saving is none of the calls that are changes: nothing is forgotten, and undo does not touch the snapshot. */
    private static void saveSnapshotIsNoChange() {
        for (Scene scene : new Scene[] {EMPTY, BUSY, FULL}) {
            PetitionBoard board = scene.make();
            int count = board.undoCount();
            String denial = Boards.denial(board);
            String line = Boards.line(board);
            board.saveSnapshot();
            Check.is("56 no change", board.undoCount(), count);
            Check.is("56 the denial stays", Boards.denial(board), denial);
            Check.is("56 the line stays", Boards.line(board), line);
            Check.is("56 the text stays", Boards.text(board), Boards.text(scene.make()));
        }
        PetitionBoard board = Boards.ready(1, 2);
        board.saveSnapshot();
        Check.is("54 undo goes on over it", board.undo(), 2);
        Check.is("54 the second stone is undone", board.stoneCount(), 1);
        board.restoreSnapshot();
        Check.is("57 undo does not touch it", board.stoneCount(), 2);
    }

    /** 56: "it replaces an earlier snapshot". */
    private static void saveSnapshotReplaces() {
        PetitionBoard board = Boards.ready(3, 10);
        Boards.filePetitions(board, 8);
        Boards.execute(board, "yes 1 0;yes 2 0;decide;cite 1 0;no 1 1");
        board.saveSnapshot();
        Boards.undo(board, 4);
        Check.is("56 a smaller one", board.saveSnapshot(), 5);
        String smaller = Boards.look(board);
        board.file(1, 7, 20, 9);
        board.restoreSnapshot();
        Check.is("57 the smaller one", Boards.look(board), smaller);
        board.addOfficer(9);
        Check.is("56 a later one", board.saveSnapshot(), 5);
        board.undo();
        Check.is("57 the later one", board.restoreSnapshot() * 10 + board.officerCount(), 54);
    }

    /** 57: "Returns the number of pending petitions afterwards". */
    private static void restoreSnapshotAnswers() {
        for (int petitions : Edges.within(0, 8)) {
            PetitionBoard board = Boards.filePetitions(Boards.ready(1, 10), 8 - petitions);
            board.saveSnapshot();
            for (int i = 0; i < 8 - petitions; i++) {
                board.withdraw(i);
            }
            for (int i = 0; i < petitions; i++) {
                board.file(0, 9 - i, 20, 1);
            }
            Check.is("57 petitions " + (8 - petitions), board.restoreSnapshot(), 8 - petitions);
            Check.is("16 petitions " + (8 - petitions), board.pendingCount(), 8 - petitions);
        }
    }

    /** 57: "No change can be undone afterwards." */
    private static void restoreSnapshotEndsUndo() {
        for (int changes : Edges.within(0, 10)) {
            PetitionBoard board = new PetitionBoard();
            board.saveSnapshot();
            for (int n = 0; n < changes; n++) {
                change(board, n);
            }
            board.restoreSnapshot();
            Check.is("57 none after changes " + changes, board.undoCount(), 0);
            Check.illegalState("57 no undo after changes " + changes, () -> board.undo());
            Check.is("57 restored after changes " + changes, board.quorum(), 2);
            change(board, 3);
            Check.is("55 a change afterwards", board.undoCount(), 1);
            Check.is("54 its undo", board.undo(), 0);
            Check.is("54 back to the snapshot", board.quorum(), 2);
            Check.illegalState("54 not to what was before it", () -> board.undo());
        }
    }

    /** 57: "Restores the snapshot, which is kept." */
    private static void snapshotIsKept() {
        Scene once = BUSY.after(b -> b.restoreSnapshot());
        Scene twice = once.after(b -> b.addStone(10, 9), b -> b.file(0, 1, 20, 0), b -> b.setQuorum(5),
                b -> b.vote(1, 1, true), b -> b.restoreSnapshot());
        twice.alike("57 the same as once", b -> null, b -> b.restoreSnapshot());
        once.alike("57 the same as twice", b -> null, b -> twiceRestored(b));
        twice.answers("57 none is pending", 0, b -> b.restoreSnapshot());
        twice.answers("27 one ruling", 1, b -> b.rulingCount());
        twice.answers("26 the quorum", 2, b -> b.quorum());
        twice.absent("7 no stone", b -> b.stoneIn(10));
    }

    private static Object twiceRestored(PetitionBoard board) {
        Boards.rule(board, false, 0);
        board.addOfficer(9);
        board.restoreSnapshot();
        board.withdraw(board.file(4, 5, 20, 9));
        return board.restoreSnapshot();
    }

    /** ".. affected neither by undo nor by snapshots" */
    private static void snapshotLeavesTheRest() {
        PetitionBoard board = Boards.busy();
        String line = Boards.line(board);
        String denial = Boards.denial(board);
        board.restoreSnapshot();
        board.saveSnapshot();
        board.restoreSnapshot();
        Check.is("57 the line", Boards.line(board), line);
        Check.is("57 the denial", Boards.denial(board), denial);
        Check.is("57 the fault position", board.faultPosition(), 8);
        Check.is("57 the text", board.feed('9'), 8);
        Check.denied("57 the text is executed", board, 12, 0, () -> board.execute());
        PetitionBoard later = new PetitionBoard();
        later.saveSnapshot();
        Boards.feed(later, "x");
        Check.unfit("45 after the snapshot", () -> later.execute());
        Check.denied("25 after the snapshot", later, 9, 0, () -> later.decide());
        later.writeRow(0);
        later.feed('y');
        later.restoreSnapshot();
        Check.is("57 the later line", Boards.line(later), ".....");
        Check.is("57 the later denial", later.denial(), 9);
        Check.is("57 the later fault position", later.faultPosition(), 0);
        Check.is("57 the later text", later.feed('z'), 2);
    }

    /** Each kind of change once, at the varied board. */
    private static void changeAll(PetitionBoard board) {
        board.addStone(10, 5);
        board.addOfficer(6);
        board.withdraw(3);
        board.veto(4, 5);
        board.cite(6, 1);
        board.vote(4, 6, false);
        board.vote(4, 4, true);
        board.decide();
        board.setQuorum(4);
        board.decide();
        board.file(1, 8, 20, 9);
        board.file(5, 7, 12, 0);
    }

    /** And once more. */
    private static void changeMore(PetitionBoard board) {
        board.veto(4, board.file(3, 0, 3, 7));
        board.setQuorum(3);
        Boards.execute(board, "yes 0 11;no 1 11;no 2 11;decide;withdraw 10");
        board.cite(4, 2);
        board.decide();
        board.file(4, 6, 5, 0);
    }

    /** 56: "Saves a snapshot of everything that changes can change", when all of it has another value than before. */
    private static void everythingIsSaved() {
        PetitionBoard board = Boards.varied();
        board.saveSnapshot();
        changeAll(board);
        board.restoreSnapshot();
        Check.is("57 the varied board", Boards.lines(board), Boards.lines(Boards.varied()));
        PetitionBoard due = Boards.varied();
        changeAll(due);
        Check.is("57 the later snapshot", Boards.lines(restoredLater()), Boards.lines(due));
        PetitionBoard dueMore = Boards.varied();
        changeAll(dueMore);
        changeMore(dueMore);
        PetitionBoard more = restoredLater();
        changeMore(more);
        Check.is("57 the same changes after it", Boards.lines(more), Boards.lines(dueMore));
    }

    /** A board with two snapshots, of which the later one is restored. */
    private static PetitionBoard restoredLater() {
        PetitionBoard board = Boards.varied();
        board.saveSnapshot();
        changeAll(board);
        board.saveSnapshot();
        changeMore(board);
        board.restoreSnapshot();
        return board;
    }

    /** What the ranks of the petitioners decide goes by the ranks in the snapshot. */
    private static void ranksAreRestored() {
        PetitionBoard board = Boards.varied();
        board.saveSnapshot();
        for (int petition : new int[] {9, 6, 4, 5, 3}) {
            board.withdraw(petition);
        }
        for (int officer : Edges.within(0, 4)) {
            board.file(officer, 8 - officer, 20, officer);
        }
        board.restoreSnapshot();
        int[] queue = {9, 6, 4, 5, 3};
        int[] ranks = {9, 7, 5, 5, 3};
        for (int i = 0; i < queue.length; i++) {
            int petition = queue[i];
            Check.denied("57 the petitioner's rank of " + petition, board, 8, ranks[i], () -> board.veto(1, petition));
        }
        board.file(2, 8, 20, 4);
        board.file(0, 2, 20, 5);
        int[] longer = {9, 10, 6, 11, 4, 5, 3};
        for (int i = 0; i < longer.length; i++) {
            Check.is("57 the next ones among them, position " + i, board.petitionAt(i), longer[i]);
        }
    }

    /** "everything that changes can change", also where each limit is reached. */
    private static void snapshotOfTheFullBoard() {
        FULL.after(b -> b.saveSnapshot(), b -> b.withdraw(23), b -> b.withdraw(16), b -> b.setQuorum(1))
                .alike("57 eight petitions", b -> b.restoreSnapshot(), b -> Boards.undo(b, 3));
        FULL.after(b -> Boards.undo(b, 8), b -> b.saveSnapshot(), b -> b.setQuorum(5), b -> b.withdraw(20))
                .alike("57 after undos", b -> b.restoreSnapshot(), b -> Boards.undo(b, 2));
        FULL.after(b -> b.restoreSnapshot()).answers("57 two rulings", 2, b -> b.rulingCount());
        FULL.after(b -> b.restoreSnapshot()).outside("57 no third", b -> b.isGranted(2));
        FULL.after(b -> b.restoreSnapshot()).absent("57 no petition", b -> b.petitionAt(0));
    }

    /** What was undone or restored leaves nothing behind in what is done instead of it, nor in its undos. */
    private static void undoInAnotherLife() {
        Scene.Call[][] lives = {LIFE, OTHER_LIFE};
        for (int first = 0; first < 2; first++) {
            Scene ended = START.after(b -> b.saveSnapshot()).after(lives[first]).after(b -> b.restoreSnapshot());
            for (int length = 0; length <= LIFE.length; length++) {
                Scene.Call[] life = Arrays.copyOf(lives[1 - first], length);
                for (int undos : Edges.within(0, Math.min(8, length))) {
                    Scene due = START.after(Arrays.copyOf(life, length - undos));
                    String look = Boards.look(ended.after(life).after(b -> Boards.undo(b, undos)).make());
                    Check.is("54 " + undos + " of " + length + " calls undone", look, Boards.look(due.make()));
                }
            }
        }
    }

    /** A snapshot that replaces one of another life, restored into that life. */
    private static void snapshotOfAnotherLife() {
        String life = "officer 1;stone 9 2;file 0 0 13 2;yes 1 0;yes 2 0;decide";
        String more = "file 1 1 10 3;cite 1 0;no 0 1;no 2 1;decide;stone 17 4";
        String otherLife = "officer 8;stone 8 7;file 2 1 8 9;no 1 0;yes 0 0;decide";
        String moreOfIt = "file 3 0 12 7;no 0 1;no 2 1;decide;stone 16 3;quorum 5";
        String[][] texts = {{life, more, otherLife, moreOfIt}, {otherLife, moreOfIt, life, more},
            {life, more, otherLife, ""}, {otherLife, moreOfIt, life, ""}, {life, "", otherLife, moreOfIt},
            {otherLife, "", life, more}};
        for (String[] parts : texts) {
            PetitionBoard board = START.make();
            live(board, parts[0], parts[1]);
            board.saveSnapshot();
            Boards.undo(board, parts[1].isEmpty() ? 1 : 2);
            live(board, parts[2], parts[3]);
            board.saveSnapshot();
            Boards.undo(board, parts[3].isEmpty() ? 1 : 2);
            live(board, parts[0], parts[1]);
            board.restoreSnapshot();
            PetitionBoard due = START.make();
            live(due, parts[2], parts[3]);
            Check.is("57 the other life", Boards.look(board), Boards.look(due));
        }
    }

    private static void live(PetitionBoard board, String text, String more) {
        Boards.execute(board, text);
        if (!more.isEmpty()) {
            Boards.execute(board, more);
        }
    }

    /** Each of sixteen rulings is saved, undone, made in another way and restored. */
    private static void eachRulingOfAnotherLife() {
        for (int ruling : Edges.within(0, 15)) {
            for (boolean isGranted : new boolean[] {true, false}) {
                int[] all = Edges.within(Math.max(0, ruling - 3), ruling - 1);
                int[] first = Edges.within(0, Math.min(0, ruling - 1));
                String what = "57 ruling " + ruling + (isGranted ? ", granted" : ", not granted");
                rulingOfAnotherLife(what, ruling, isGranted, all, first);
                rulingOfAnotherLife(what + ", first", ruling, isGranted, first, all);
            }
        }
    }

    private static void rulingOfAnotherLife(String what, int ruling, boolean isGranted, int[] cited, int[] others) {
        PetitionBoard board = Boards.withRulings(ruling);
        Boards.rule(board, isGranted, cited);
        board.saveSnapshot();
        Boards.undo(board, 4 + cited.length);
        Check.is(what + ", undone", board.rulingCount(), ruling);
        Boards.rule(board, !isGranted, others);
        board.restoreSnapshot();
        PetitionBoard due = Boards.withRulings(ruling);
        Boards.rule(due, isGranted, cited);
        Check.is(what, Boards.look(board), Boards.look(due));
    }

    /** Each of ten stones is saved and then moved, or added in another way, and restored. */
    private static void eachStoneOfAnotherLife() {
        for (int stone : Edges.within(0, 9)) {
            Scene ready = new Scene(() -> Boards.ready(3, stone)).after(b -> b.addStone(20, 9));
            Scene.Call[] move = {b -> b.saveSnapshot(), b -> b.file(0, stone, 21, 0), b -> b.vote(1, 0, true),
                b -> b.vote(2, 0, true), b -> b.decide(), b -> b.restoreSnapshot()};
            Check.is("57 stone " + stone + " is moved back", Boards.lines(ready.after(move).make()),
                    Boards.lines(ready.make()));
            Scene.Call[] other = {b -> b.saveSnapshot(), b -> b.undo(), b -> b.addStone(22, 4),
                b -> b.restoreSnapshot()};
            Check.is("57 stone " + stone + " is the one saved", Boards.lines(ready.after(other).make()),
                    Boards.lines(ready.make()));
        }
    }
}
