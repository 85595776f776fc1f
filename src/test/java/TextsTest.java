/** Promises 44 to 49. */
public final class TextsTest {
    public static void main(String[] args) {
        feed();
        eachCommand();
        numbersOfTwoDigits();
        longestText();
        mostCommands();
        faults();
        faultsOfFullBuffers();
        faultPosition();
        allOrNothing();
        writePetition();
        writeRow();
        lineCharacter();
        Check.end();
    }

    private static void feed() {
        PetitionBoard board = new PetitionBoard();
        for (int i = 1; i <= 60; i++) {
            Check.is("44 length " + i, board.feed((char) (i * 1092)), i);
        }
        Check.illegalState("44 full", () -> board.feed('d'));
        Check.unfit("45 no text", () -> board.execute());
        Check.is("44 empty again", board.feed((char) 0), 1);
    }

    private static void eachCommand() {
        PetitionBoard board = new PetitionBoard();
        Check.is("45 officers", Boards.execute(board, "officer 5;officer 6;officer 7"), 3);
        Check.is("45 stones", Boards.execute(board, "stone 3 9;stone 12 1;stone 0 4"), 3);
        Check.is("45 petitions", Boards.execute(board, "file 0 0 24 9;file 0 1 7 8;file 0 2 9 0"), 3);
        Check.is("45 votes", Boards.execute(board, "yes 1 0;no 2 0;quorum 3;quorum 2"), 4);
        Check.is("45 yes", board.votesFor(0), 1);
        Check.is("45 no", board.votesAgainst(0), 1);
        Check.is("45 veto and withdraw", Boards.execute(board, "veto 1 1;withdraw 2"), 2);
        Check.is("45 vetoed", board.vetoes(), 1);
        Check.is("45 withdrawn", board.withdrawals(), 1);
        Check.is("45 decide", Boards.execute(board, "decide"), 1);
        Check.is("45 decided", board.isGranted(0), false);
        Check.is("45 cite", Boards.execute(board, "file 0 0 24 9;cite 3 0"), 2);
        Check.is("45 cell, then weight", board.cellOf(1) * 10 + board.weightOf(1), 121);
        Check.is("45 quorum", Boards.execute(board, "quorum 5") * 10 + board.quorum(), 15);
        board.writePetition(3);
        Check.is("45 the parameters in their order", Boards.line(board), "#3:0>24@0!9+0-0^0");
    }

    private static void numbersOfTwoDigits() {
        PetitionBoard board = Boards.ready(3, 1);
        Check.is("45 a zero first", Boards.execute(board, "stone 09 3;file 0 1 08 2"), 2);
        Check.is("45 nine", board.cellOf(1), 9);
        Check.is("45 eight", board.targetOf(0), 8);
        Check.is("45 two zeros", Boards.execute(board, "yes 1 00"), 1);
        board.withdraw(0);
        for (int i = 1; i < 12; i++) {
            board.withdraw(board.file(0, 1, 8, 0));
        }
        board.file(0, 1, 8, 0);
        Check.is("45 petition twelve", Boards.execute(board, "no 2 12"), 1);
        Check.is("45 its vote", board.votesAgainst(12), 1);
    }

    private static void longestText() {
        PetitionBoard board = new PetitionBoard();
        Check.is("44 sixty characters", Boards.feed(board,
                "stone 5 1;stone 6 1;stone 7 1;stone 10 1;stone 11 1;quorum 3"), 60);
        Check.is("45 sixty characters", board.execute(), 6);
        Check.is("45 five stones", board.stoneCount(), 5);
        Check.is("45 the last command, too", board.quorum(), 3);
    }

    private static void mostCommands() {
        PetitionBoard board = Boards.ready(6, 2);
        board.setQuorum(4);
        board.file(0, 0, 20, 0);
        board.file(0, 1, 21, 0);
        Check.is("45 eight commands",
                Boards.execute(board, "no 1 0;no 2 0;no 3 0;no 4 0;no 5 0;decide;no 1 1;no 2 1"), 8);
        Check.is("45 the first ones", board.isGranted(0), false);
        Check.is("45 the last ones", board.votesAgainst(1), 2);
    }

    private static void fault(String text, int due) {
        PetitionBoard board = new PetitionBoard();
        Check.unfit("45 \"" + text + "\"", () -> Boards.execute(board, text));
        Check.is("46 \"" + text + "\"", Check.answer(() -> board.faultPosition()), String.valueOf(due));
        Check.is("45 \"" + text + "\" leaves an empty buffer", board.feed('x'), 1);
        Check.is("45 \"" + text + "\" changes nothing", board.undoCount() + board.stoneCount(), 0);
    }

    private static void faults() {
        fault("", 0);
        fault(" ", 0);
        fault("x", 0);
        fault(";", 0);
        fault("Decide", 0);
        fault("decid", 5);
        fault("decide ", 6);
        fault("decides", 6);
        fault("decide;", 7);
        fault("decide;;", 7);
        fault("decide; decide", 7);
        fault("stone", 5);
        fault("stone ", 6);
        fault("stone  1 1", 6);
        fault("stone 1", 7);
        fault("stone 1;", 7);
        fault("stone 123 1", 8);
        fault("stone 12 ", 9);
        fault("stone 1 12", 9);
        fault("stone 1 1 ", 9);
        fault("stone -1 1", 6);
        fault("stone 1 /", 8);
        fault("stone 1 :", 8);
        fault("stone N D", 6);
        fault("officer 10", 9);
        fault("quorum 22", 8);
        fault("file 10 1 1 1", 6);
        fault("file 1 10 1 1", 8);
        fault("file 1 1 1 10", 12);
        fault("yes 10 1", 5);
        fault("yes 1 100", 8);
        fault("no 10 1", 4);
        fault("no 1 100", 7);
        fault("cite 100 1", 7);
        fault("cite 1 100", 9);
        fault("cite 1  1", 7);
        fault("veto 10 1", 6);
        fault("veto 1 100", 9);
        fault("withdraw 100", 11);
        fault("officer 1;quorum", 16);
        fault("officer " + (char) 0x0661, 8);
        fault("decide" + (char) 0, 6);
    }

    private static void faultsOfFullBuffers() {
        String eight = "decide;decide;decide;decide;decide;decide;decide;decide";
        fault(eight + ";", 56);
        fault(eight + ";deci", 60);
        fault(eight + ";dedi", 58);
        fault("no 1 1;no 1 1;no 1 1;no 1 1;no 1 1;no 1 1;no 1 1;no 1 1;no 1", 60);
        fault("no 1 1;no 1 1;no 1 1;no 1 1;no 1 1;no 1 1;no 1 1;no 1 1;no 1".substring(0, 59) + ";", 59);
    }

    private static void faultPosition() {
        PetitionBoard board = new PetitionBoard();
        Check.absent("46 none kept", () -> board.faultPosition());
        Check.is("45 matches", Boards.execute(board, "officer 1"), 1);
        Check.absent("46 still none kept", () -> board.faultPosition());
        Check.unfit("45 wrong", () -> Boards.execute(board, "offx"));
        Check.is("46 kept", board.faultPosition(), 3);
        Check.is("45 matches", Boards.execute(board, "officer 2"), 1);
        Check.is("46 kept over a success", board.faultPosition(), 3);
        Check.denied("45 denied", board, 12, 0, () -> Boards.execute(board, "decide"));
        Check.is("46 kept over a denial", board.faultPosition(), 3);
        board.undo();
        Check.is("46 kept over undo", board.faultPosition(), 3);
        Check.unfit("45 empty", () -> board.execute());
        Check.is("46 the last one", board.faultPosition(), 0);
        Check.absent("45 a fault is no denial of its own", () -> new PetitionBoard().denial());
    }

    private static void allOrNothing() {
        PetitionBoard board = Boards.ready(3, 2);
        board.file(0, 0, 20, 0);
        String before = Boards.look(board);
        Check.denied("45 the third fails", board, 12, 2,
                () -> Boards.execute(board, "yes 1 0;yes 2 0;yes 1 0;decide"));
        Check.is("45 nothing is done", Boards.look(board), before);
        Check.is("45 nothing is to be undone", board.undoCount(), 6);
        Check.is("45 the buffer is empty", board.feed('d'), 1);
        Check.is("45 the rest of a text", Boards.execute(Boards.ready(1, 0), "quorum 3"), 1);
        Check.unfit("45 one letter", () -> board.execute());
        Check.denied("45 fails with another exception", board, 12, 1,
                () -> Boards.execute(board, "stone 20 1;withdraw 1"));
        Check.is("45 nothing is done again", Boards.look(board), before);
        Check.is("45 the next command sees the one before", Boards.execute(board, "yes 1 0;yes 2 0;decide"), 3);
        Check.is("45 decided", board.cellOf(0), 20);
    }

    private static void writePetition() {
        PetitionBoard board = Boards.ready(6, 4);
        for (int i = 0; i < 5; i++) {
            Boards.rule(board, true);
        }
        for (int i = 5; i < 12; i++) {
            board.withdraw(board.file(0, 0, 20, 0));
        }
        board.file(0, 3, 24, 5);
        Check.is("47 no votes", board.writePetition(12), 16);
        Check.is("47 no citations", Boards.line(board), "#12:3>24@0!5+0-0");
        board.vote(1, 12, true);
        board.vote(2, 12, true);
        board.vote(3, 12, false);
        board.cite(12, 4);
        board.cite(12, 0);
        Check.is("47 the length", board.writePetition(12), 20);
        Check.is("47 the document's example", Boards.line(board), "#12:3>24@0!5+2-1^4^0");
        Check.absent("47 petition 11", () -> board.writePetition(11));
        Check.absent("47 petition 13", () -> board.writePetition(13));
        Check.absent("47 petition -1", () -> board.writePetition(-1));
        Check.is("47 kept over an exception", Boards.line(board), "#12:3>24@0!5+2-1^4^0");
        board.withdraw(12);
        for (int i = 5; i < 16; i++) {
            Boards.rule(board, true);
        }
        for (int i = 24; i < 100; i++) {
            board.withdraw(board.file(5, 0, 20, 0));
        }
        board.file(5, 0, 0, 9);
        board.cite(100, 15);
        board.cite(100, 9);
        board.cite(100, 10);
        Check.is("47 the longer length", board.writePetition(100), 24);
        Check.is("47 three digits", Boards.line(board), "#100:0>0@5!9+0-0^15^9^10");
    }

    private static void writeRow() {
        PetitionBoard board = new PetitionBoard();
        board.addStone(4, 1);
        board.addStone(5, 1);
        board.addStone(24, 1);
        board.addStone(7, 1);
        Check.is("48 the length", board.writeRow(0), 5);
        Check.is("48 row 0", Boards.line(board), "....0");
        board.writeRow(1);
        Check.is("48 row 1", Boards.line(board), "1.3..");
        board.writeRow(2);
        Check.is("48 row 2", Boards.line(board), ".....");
        board.writeRow(4);
        Check.is("48 row 4", Boards.line(board), "....2");
        Check.outside("48 row 5", () -> board.writeRow(5));
        Check.outside("48 row -1", () -> board.writeRow(-1));
        Check.outside("48 row greatest", () -> board.writeRow(Integer.MAX_VALUE));
        Check.is("48 kept over an exception", Boards.line(board), "....2");
        PetitionBoard full = Boards.addStones(new PetitionBoard(), 10);
        full.writeRow(1);
        Check.is("48 ten stones", Boards.line(full), "56789");
    }

    private static void lineCharacter() {
        PetitionBoard board = Boards.ready(2, 1);
        Check.outside("49 initially empty", () -> board.lineCharacter(0));
        board.file(0, 0, 24, 7);
        board.writePetition(0);
        Check.is("49 first", board.lineCharacter(0), '#');
        Check.is("49 last", board.lineCharacter(14), '0');
        Check.outside("49 index 15", () -> board.lineCharacter(15));
        Check.outside("49 index -1", () -> board.lineCharacter(-1));
        board.writeRow(0);
        Check.is("49 replaced", board.lineCharacter(4), '.');
        Check.outside("49 index 5 is gone", () -> board.lineCharacter(5));
        board.saveSnapshot();
        board.undo();
        board.restoreSnapshot();
        Check.is("49 kept over undo and snapshots", Boards.line(board), "0....");
    }
}
