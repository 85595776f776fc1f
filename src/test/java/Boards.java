/** Boards for the tests, and what is to be seen on one. */
final class Boards {
    private Boards() {
    }

    static PetitionBoard withOfficers(int... ranks) {
        PetitionBoard board = new PetitionBoard();
        for (int rank : ranks) {
            board.addOfficer(rank);
        }
        return board;
    }

    /** Stone i lies in cell i and has the weight i + 1. */
    static PetitionBoard addStones(PetitionBoard board, int stones) {
        for (int i = 0; i < stones; i++) {
            board.addStone(i, i % 9 + 1);
        }
        return board;
    }

    /** Officers of equal rank, so that the queue goes by urgency and number. */
    static PetitionBoard ready(int officers, int stones) {
        PetitionBoard board = new PetitionBoard();
        for (int i = 0; i < officers; i++) {
            board.addOfficer(5);
        }
        return addStones(board, stones);
    }

    /** Decides a petition of officer 0 for stone 0 with the votes of officers 1 and 2. */
    static int rule(PetitionBoard board, boolean isGranted, int... precedents) {
        int target = board.cellOf(0) == 24 ? 23 : 24;
        int petition = board.file(0, 0, target, 9);
        for (int precedent : precedents) {
            board.cite(petition, precedent);
        }
        board.vote(1, petition, isGranted);
        board.vote(2, petition, isGranted);
        return board.decide();
    }

    static int feed(PetitionBoard board, String text) {
        int length = 0;
        for (int i = 0; i < text.length(); i++) {
            length = board.feed(text.charAt(i));
        }
        return length;
    }

    static int execute(PetitionBoard board, String text) {
        feed(board, text);
        return board.execute();
    }

    /** Reads the output line until its end. */
    static String line(PetitionBoard board) {
        StringBuilder line = new StringBuilder();
        try {
            for (int i = 0; i < 1000; i++) {
                line.append(board.lineCharacter(i));
            }
        } catch (IndexOutOfBoundsException e) {
            return line.toString();
        }
        return line.toString();
    }

    /** Everything that changes can change, as far as the questions tell it; replaces the output line. */
    static String look(PetitionBoard board) {
        StringBuilder look = new StringBuilder("stones");
        for (int i = 0; i < board.stoneCount(); i++) {
            look.append(' ').append(board.cellOf(i)).append('*').append(board.weightOf(i));
        }
        look.append(" officers");
        for (int i = 0; i < board.officerCount(); i++) {
            look.append(' ').append(board.rankOf(i)).append('*').append(board.petitionsOf(i));
        }
        look.append(" queue");
        for (int i = 0; i < board.pendingCount(); i++) {
            board.writePetition(board.petitionAt(i));
            look.append(' ').append(line(board));
        }
        look.append(" rulings");
        for (int i = 0; i < board.rulingCount(); i++) {
            look.append(' ').append(board.isGranted(i)).append(board.isCarriedOut(i)).append(board.depth(i));
            for (int j = 0; j < board.citationCount(i); j++) {
                look.append('^').append(board.citation(i, j));
            }
        }
        look.append(" counts ").append(board.quorum()).append(' ').append(board.filedCount()).append(' ')
                .append(board.vetoes()).append(' ').append(board.withdrawals()).append(' ')
                .append(board.movedWeight());
        return look.toString();
    }
}
