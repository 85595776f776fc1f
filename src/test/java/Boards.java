import java.util.ArrayList;
import java.util.List;

/** Boards for the tests, and what is to be seen on one. */
final class Boards {
    private Boards() {
    }

    static PetitionBoard withOfficers(int... ranks) {
        PetitionBoard board = new PetitionBoard();
        for (int rank : ranks) {
            board.addOfficer(rank);
        }
        return board;
    }

    /** Stone i lies in cell i and has the weight i + 1, but the tenth has the weight 1. */
    static PetitionBoard addStones(PetitionBoard board, int stones) {
        for (int i = 0; i < stones; i++) {
            board.addStone(i, i % 9 + 1);
        }
        return board;
    }

    /** Officers of equal rank, so that the queue goes by urgency and number. */
    static PetitionBoard ready(int officers, int stones) {
        PetitionBoard board = new PetitionBoard();
        for (int i = 0; i < officers; i++) {
            board.addOfficer(5);
        }
        return addStones(board, stones);
    }

    /** Petition i is for stone i; all ask for cell 20, and the later ones come later. */
    static PetitionBoard filePetitions(PetitionBoard board, int petitions) {
        for (int i = 0; i < petitions; i++) {
            board.file(0, i, 20, 0);
        }
        return board;
    }

    /** Six officers, ten stones and rulings without citations. */
    static PetitionBoard withRulings(int rulings) {
        PetitionBoard board = ready(6, 10);
        for (int i = 0; i < rulings; i++) {
            rule(board, true);
        }
        return board;
    }

    /** Decides a petition of officer 0 for stone 0 with the votes of officers 1 and 2. */
    static int rule(PetitionBoard board, boolean isGranted, int... precedents) {
        int target = board.cellOf(0) == 24 ? 23 : 24;
        int petition = board.file(0, 0, target, 9);
        for (int precedent : precedents) {
            board.cite(petition, precedent);
        }
        board.vote(1, petition, isGranted);
        board.vote(2, petition, isGranted);
        return board.decide();
    }

    /** Something of everything that a call could spoil; the petitions 7, 9 and 6 are pending, in this order. */
    static PetitionBoard busy() {
        PetitionBoard board = addStones(withOfficers(5, 3, 7, 5, 9), 6);
        rule(board, true);
        board.saveSnapshot();
        rule(board, false);
        rule(board, true, 0, 1);
        board.file(1, 5, 20, 9);
        board.veto(0, 3);
        board.withdraw(board.file(1, 5, 20, 9));
        Boards.feed(board, "officer x");
        Check.answer(() -> board.execute());
        board.file(3, 4, 22, 9);
        board.withdraw(5);
        board.file(1, 1, 20, 4);
        board.file(0, 2, 20, 7);
        board.withdraw(board.file(0, 3, 21, 7));
        board.file(3, 3, 0, 7);
        board.cite(7, 2);
        board.cite(7, 0);
        board.vote(1, 7, true);
        board.vote(2, 7, false);
        board.vote(2, 6, true);
        Boards.feed(board, "quorum 3;quorum 3");
        Check.answer(() -> board.execute());
        board.writeRow(4);
        feed(board, "quorum ");
        return board;
    }

    /** Each limit is reached; the stones 8 and 9 are free, and the first petition has all its votes. */
    static PetitionBoard full() {
        PetitionBoard board = ready(6, 10);
        rule(board, true);
        rule(board, false, 0);
        board.saveSnapshot();
        rule(board, true, 1, 0);
        for (int i = 3; i < 16; i++) {
            rule(board, i % 3 != 1, i - 1, i - 3, i - 2);
        }
        for (int i = 0; i < 8; i++) {
            board.file(i % 6, i, 20, i);
        }
        int first = board.petitionAt(0);
        for (int officer : new int[] {0, 2, 3, 4, 5}) {
            board.vote(officer, first, officer < 3);
        }
        for (int ruling : new int[] {15, 0, 10}) {
            board.cite(first, ruling);
        }
        feed(board, "decide;decide;decide;decide;decide;decide;decide;decide;deci");
        return board;
    }

    /** The petitions 9, 6, 4, 5 and 3 are pending, in this order, each with other votes and citations. */
    static PetitionBoard varied() {
        PetitionBoard board = addStones(withOfficers(5, 3, 7, 5, 9), 9);
        rule(board, true);
        rule(board, false, 0);
        board.file(0, 1, 2, 9);
        cast(board, 2, ".++");
        board.cite(2, 1);
        board.cite(2, 0);
        board.decide();
        board.file(1, 3, 20, 4);
        board.file(0, 4, 21, 4);
        board.file(3, 5, 22, 4);
        board.file(2, 6, 5, 0);
        board.withdraw(board.file(4, 7, 24, 3));
        board.veto(4, board.file(1, 7, 23, 3));
        board.file(4, 7, 23, 9);
        cast(board, 3, "+.-+-");
        cast(board, 4, ".-+-.");
        cast(board, 5, "---.+");
        cast(board, 6, "++.+.");
        cast(board, 9, "-+-..");
        board.cite(3, 2);
        board.cite(4, 1);
        board.cite(4, 0);
        execute(board, "cite 5 0;cite 5 1;cite 5 2;cite 9 1;quorum 3");
        return board;
    }

    /** A sign for each officer: a vote for or against the petition, or none. */
    static void cast(PetitionBoard board, int petition, String votes) {
        for (int officer = 0; officer < votes.length(); officer++) {
            if (votes.charAt(officer) != '.') {
                board.vote(officer, petition, votes.charAt(officer) == '+');
            }
        }
    }

    /** Sets the quorum, unless it is the present one. */
    static PetitionBoard withQuorum(PetitionBoard board, int quorum) {
        if (board.quorum() != quorum) {
            board.setQuorum(quorum);
        }
        return board;
    }

    static int feed(PetitionBoard board, String text) {
        int length = 0;
        for (int i = 0; i < text.length(); i++) {
            length = board.feed(text.charAt(i));
        }
        return length;
    }

    static int execute(PetitionBoard board, String text) {
        feed(board, text);
        return board.execute();
    }

    /** The answer of the last undo, or nothing for none. */
    static String undo(PetitionBoard board, int times) {
        String answer = "";
        for (int i = 0; i < times; i++) {
            answer = Check.answer(() -> board.undo());
        }
        return answer;
    }

    /** Reads the output line until its end. */
    static String line(PetitionBoard board) {
        StringBuilder line = new StringBuilder();
        try {
            for (int i = 0; i < 1000; i++) {
                line.append(board.lineCharacter(i));
            }
        } catch (IndexOutOfBoundsException e) {
            return line.toString();
        }
        return line.toString();
    }

    /** What the buffer holds, as far as its length and the fault behind one more sign tell it; empties it. */
    static String text(PetitionBoard board) {
        String length = Check.answer(() -> board.feed('x'));
        String answer = Check.answer(() -> board.execute());
        return length + " " + answer + " " + Check.answer(() -> board.faultPosition());
    }

    static String denial(PetitionBoard board) {
        return Check.answer(() -> board.denial()) + " " + Check.answer(() -> board.denialDetail()) + " "
                + Check.answer(() -> board.denialCause()) + " " + Check.answer(() -> board.denialCauseDetail());
    }

    /** Everything that changes can change, as far as the questions tell it; replaces the output line. */
    static String look(PetitionBoard board) {
        return lookAtTheRest(board) + lookAtQueue(board);
    }

    /** Replaces the output line. */
    static String lookAtQueue(PetitionBoard board) {
        StringBuilder look = new StringBuilder(" queue");
        int pending = board.pendingCount();
        for (int i = 0; i < pending; i++) {
            int petition = board.petitionAt(i);
            board.writePetition(petition);
            look.append(' ').append(board.positionOf(petition)).append(line(board));
        }
        return look.toString();
    }

    static String lookAtTheRest(PetitionBoard board) {
        StringBuilder look = new StringBuilder(" stones");
        int stones = board.stoneCount();
        for (int i = 0; i < stones; i++) {
            look.append(' ').append(board.cellOf(i)).append('*').append(board.weightOf(i));
        }
        look.append(" officers");
        int officers = board.officerCount();
        for (int i = 0; i < officers; i++) {
            look.append(' ').append(board.rankOf(i)).append('*').append(board.petitionsOf(i));
        }
        look.append(" rulings");
        int rulings = board.rulingCount();
        for (int i = 0; i < rulings; i++) {
            look.append(' ').append(board.isGranted(i)).append(board.isCarriedOut(i)).append(board.depth(i));
            int citations = board.citationCount(i);
            for (int j = 0; j < citations; j++) {
                look.append('^').append(board.citation(i, j));
            }
        }
        return look.append(" counts ").append(board.quorum()).append(' ').append(board.filedCount()).append(' ')
                .append(board.vetoes()).append(' ').append(board.withdrawals()).append(' ')
                .append(board.movedWeight()).toString();
    }

    /** What follows from the rest, but is asked for by questions of its own. */
    static String lookAtWhatFollows(PetitionBoard board) {
        StringBuilder look = new StringBuilder(" cells ");
        for (int cell = 0; cell < 25; cell++) {
            int each = cell;
            look.append(Check.answer(() -> board.stoneIn(each)).replace("NoSuchElementException", "."));
        }
        look.append(" petitions ").append(Check.answer(() -> board.meanVotes()));
        int pending = board.pendingCount();
        for (int i = 0; i < pending; i++) {
            int petition = board.petitionAt(i);
            look.append(' ').append(board.stoneOf(petition)).append('>').append(board.targetOf(petition))
                    .append('+').append(board.votesFor(petition)).append('-').append(board.votesAgainst(petition))
                    .append(board.wouldBeGranted(petition));
        }
        look.append(" precedents ").append(Check.answer(() -> board.grantedShare()));
        int rulings = board.rulingCount();
        for (int i = 0; i < rulings; i++) {
            look.append(' ').append(board.rulingByInfluence(i)).append(':').append(board.citedBy(i))
                    .append(board.isBasedOn(i, 0) ? '+' : '-').append(board.isBasedOn(rulings - 1, i) ? '+' : '-')
                    .append(board.influence(i)).append('=').append(board.influenceByMarking(i));
        }
        return look.toString();
    }

    /** Everything that changes can change, and what follows from it, a line each; replaces the output line. */
    static List<String> lines(PetitionBoard board) {
        List<String> lines = new ArrayList<>();
        int stones = board.stoneCount();
        for (int i = 0; i < stones; i++) {
            lines.add("stone " + i + ": cell " + board.cellOf(i) + ", weight " + board.weightOf(i));
        }
        int officers = board.officerCount();
        for (int i = 0; i < officers; i++) {
            lines.add("officer " + i + ": rank " + board.rankOf(i) + ", petitions " + board.petitionsOf(i));
        }
        StringBuilder queue = new StringBuilder("queue");
        int pending = board.pendingCount();
        for (int i = 0; i < pending; i++) {
            int petition = board.petitionAt(i);
            queue.append(' ').append(petition);
            board.writePetition(petition);
            lines.add(line(board) + (board.wouldBeGranted(petition) ? " would be granted" : ""));
        }
        lines.add(queue.toString());
        int rulings = board.rulingCount();
        for (int i = 0; i < rulings; i++) {
            lines.add("ruling " + i + ": " + (board.isGranted(i) ? "granted" : "not granted")
                    + (board.isCarriedOut(i) ? ", carried out" : "") + ", cites" + citations(board, i)
                    + ", cited by " + board.citedBy(i) + ", depth " + board.depth(i)
                    + ", influence " + board.influence(i));
        }
        lines.add("quorum " + board.quorum());
        lines.add("filed " + board.filedCount());
        lines.add("vetoes " + board.vetoes());
        lines.add("withdrawals " + board.withdrawals());
        lines.add("moved weight " + board.movedWeight());
        lines.add("mean votes " + Check.answer(() -> board.meanVotes()));
        lines.add("granted share " + Check.answer(() -> board.grantedShare()));
        return lines;
    }

    private static String citations(PetitionBoard board, int ruling) {
        StringBuilder citations = new StringBuilder();
        for (int i = 0; i < board.citationCount(ruling); i++) {
            citations.append(' ').append(board.citation(ruling, i));
        }
        return citations.toString();
    }
}
