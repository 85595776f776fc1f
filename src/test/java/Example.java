/** How a PetitionBoard is used. Behind each call of print stands what it prints, and after a comma why. */
public final class Example {
    public static void main(String[] args) {
        PetitionBoard board = new PetitionBoard();
        moveAStone(board);
        citeARuling(board);
        askForTooMuch(board);
        feedTexts(board);
        goBack(board);
    }

    private static void moveAStone(PetitionBoard board) {
        int clerk = board.addOfficer(3);
        int judge = board.addOfficer(5);
        int guard = board.addOfficer(3);
        int stone = board.addStone(0, 7);
        int petition = board.file(clerk, stone, 24, 9);
        print(board.vote(judge, petition, true));       // 1
        print(board.vote(guard, petition, true));       // 2, as many votes as the quorum
        int ruling = board.decide();
        print(board.isGranted(ruling));                 // true
        print(board.isCarriedOut(ruling));              // true
        print(board.cellOf(stone));                     // 24
    }

    private static void citeARuling(PetitionBoard board) {
        int petition = board.file(0, 0, 12, 0);
        print(petition);                                // 1, the second that was filed
        board.vote(1, petition, true);
        board.vote(2, petition, false);
        print(board.wouldBeGranted(petition));          // false
        print(board.cite(petition, 0));                 // 1
        print(board.wouldBeGranted(petition));          // true, since ruling 0 is granted
        print(line(board, board.writePetition(1)));     // #1:0>12@0!0+1-1^0
        print(board.decide());                          // 1
        print(line(board, board.writeRow(2)));          // ..0..
        print(board.isBasedOn(1, 0));                   // true
        print(board.influence(0));                      // 1
    }

    private static void askForTooMuch(PetitionBoard board) {
        try {
            board.addStone(12, 4);
        } catch (UnsupportedOperationException e) {
            print(board.denial());                      // 2, the cell is occupied
            print(board.denialDetail());                // 0, the index of the stone in it
        }
        try {
            board.addStone(25, 4);
        } catch (IndexOutOfBoundsException e) {
            print(board.stoneCount());                  // 1
        }
    }

    private static void feedTexts(PetitionBoard board) {
        feed(board, "stone 0 4;file 1 1 24 5;yes 0 2");
        print(board.execute());                         // 3
        print(board.petitionAt(0));                     // 2
        feed(board, "officer 9;no 1 2");
        try {
            board.execute();
        } catch (UnsupportedOperationException e) {
            print(board.denial());                      // 12, a command failed
            print(board.denialDetail());                // 1, the second one
            print(board.denialCause());                 // 6, the officer is the petitioner
            print(board.denialCauseDetail());           // 1
            print(board.officerCount());                // 3, as before the text
        }
        feed(board, "officer ten");
        try {
            board.execute();
        } catch (IllegalArgumentException e) {
            print(board.faultPosition());               // 8
        }
    }

    private static void goBack(PetitionBoard board) {
        print(board.saveSnapshot());                    // 1, the number of pending petitions
        print(board.veto(1, board.file(0, 0, 3, 7)));   // 1
        print(board.withdraw(2));                       // 0
        print(board.undo());                            // 7, so many changes can still be undone
        print(board.pendingCount());                    // 1
        print(board.restoreSnapshot());                 // 1
        print(board.vetoes());                          // 0
        print(board.undoCount());                       // 0
    }

    private static void feed(PetitionBoard board, String text) {
        for (int i = 0; i < text.length(); i++) {
            board.feed(text.charAt(i));
        }
    }

    private static String line(PetitionBoard board, int length) {
        StringBuilder line = new StringBuilder();
        for (int i = 0; i < length; i++) {
            line.append(board.lineCharacter(i));
        }
        return line.toString();
    }

    private static void print(Object answer) {
        System.out.println(answer);
    }
}
