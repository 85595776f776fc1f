/** Promises 47 to 49: each sentence that names an edge. */
public final class LinesEdgesTest {
    private static final Scene EMPTY = new Scene(() -> new PetitionBoard());
    private static final Scene BUSY = new Scene(() -> Boards.busy());
    private static final Scene FULL = new Scene(() -> Boards.full());

    public static void main(String[] args) {
        leastPetition();
        greatestPetition();
        numbersOfMoreDigits();
        eachVote();
        eachCitation();
        petitionsThatAreNotPending();
        rows();
        noSuchRows();
        fullAndEmptyRows();
        rowsAfterAMove();
        emptyLine();
        lineIndices();
        lineIsReplaced();
        lineIsKept();
        Check.end();
    }

    /** 47: each part at its least. */
    private static void leastPetition() {
        Scene scene = new Scene(() -> Boards.ready(2, 0)).after(b -> b.addStone(1, 1), b -> b.file(0, 0, 0, 0));
        scene.writes("47 the least of all", "#0:0>0@0!0+0-0", b -> b.writePetition(0));
    }

    /** 47: each part at its greatest. */
    private static void greatestPetition() {
        Scene scene = new Scene(() -> Boards.withRulings(16)).after(b -> b.file(5, 9, 24, 9), b -> b.withdraw(16),
                b -> b.file(5, 9, 22, 9), b -> b.cite(17, 15), b -> b.cite(17, 14), b -> b.cite(17, 13));
        for (int officer : Edges.within(0, 4)) {
            scene = scene.after(b -> b.vote(officer, 17, true));
        }
        scene.writes("47 five votes for", "#17:9>22@5!9+5-0^15^14^13", b -> b.writePetition(17));
        Scene last = new Scene(() -> Boards.ready(6, 10)).after(b -> b.file(5, 9, 24, 9));
        for (int officer : Edges.within(0, 4)) {
            last = last.after(b -> b.vote(officer, 0, false));
        }
        last.writes("47 five votes against", "#0:9>24@5!9+0-5", b -> b.writePetition(0));
    }

    /** 47: the last number of each length, and the first of the next. */
    private static void numbersOfMoreDigits() {
        PetitionBoard board = Boards.ready(1, 1);
        for (int number = 0; number <= 101; number++) {
            board.file(0, 0, 10, 0);
            if (number % 10 == 9 || number % 10 == 0) {
                String due = "#" + number + ":0>10@0!0+0-0";
                Check.is("47 length " + number, board.writePetition(number), due.length());
                Check.is("47 sign of " + number, board.lineCharacter(due.length() - 1), '0');
                StringBuilder line = new StringBuilder();
                for (int i = 0; i < 4; i++) {
                    line.append(board.lineCharacter(i));
                }
                Check.is("47 number " + number, line.toString(), due.substring(0, 4));
            }
            board.withdraw(number);
        }
    }

    /** 47: "+" and the votes for it, "-" and the votes against it. */
    private static void eachVote() {
        for (int votesFor : Edges.within(0, 5)) {
            for (int votesAgainst : Edges.within(0, 5 - votesFor)) {
                Scene scene = new Scene(() -> Boards.ready(6, 3)).after(b -> b.file(0, 2, 9, 4));
                for (int officer : Edges.within(1, votesFor + votesAgainst)) {
                    scene = scene.after(b -> b.vote(officer, 0, officer <= votesFor));
                }
                scene.writes("47 votes", "#0:2>9@0!4+" + votesFor + "-" + votesAgainst, b -> b.writePetition(0));
            }
        }
    }

    /** 47: "for each cited ruling, in the order of citing", none to three. */
    private static void eachCitation() {
        Scene scene = FULL;
        scene.writes("47 no citation", "#16:0>20@0!0+0-0", b -> b.writePetition(16));
        String line = "#16:0>20@0!0+0-0";
        for (int ruling : new int[] {9, 0, 10}) {
            scene = scene.after(b -> b.cite(16, ruling));
            line = line + "^" + ruling;
            scene.writes("47 with ruling " + ruling, line, b -> b.writePetition(16));
        }
        scene.afterRefused(b -> b.cite(16, 1)).writes("47 after a refused one", line, b -> b.writePetition(16));
        scene.after(b -> b.undo()).writes("47 undone", "#16:0>20@0!0+0-0^9^0", b -> b.writePetition(16));
        FULL.writes("47 all votes", "#23:7>20@1!7+2-3^15^0^10", b -> b.writePetition(23));
        BUSY.writes("47 at a busy board", "#7:2>20@0!7+1-1^2^0", b -> b.writePetition(7));
    }

    /** 47: "Throws NoSuchElementException if no pending petition has this number"; the line stays. */
    private static void petitionsThatAreNotPending() {
        EMPTY.absent("47 none", b -> b.writePetition(0));
        for (int petition : Edges.beyond(16, 23)) {
            FULL.absent("47 petition " + petition + " of 16 to 23", b -> b.writePetition(petition));
        }
        for (int petition : new int[] {0, 1, 2, 3, 4, 5, 8, 10}) {
            BUSY.absent("47 petition " + petition + " is not pending", b -> b.writePetition(petition));
        }
        BUSY.after(b -> b.withdraw(9)).absent("47 withdrawn", b -> b.writePetition(9));
        BUSY.after(b -> b.veto(4, 9)).absent("47 vetoed", b -> b.writePetition(9));
        BUSY.after(b -> b.decide()).absent("47 decided", b -> b.writePetition(7));
    }

    /** 48: "The row r consists of the cells 5 * r to 5 * r + 4": each cell by itself. */
    private static void rows() {
        for (int cell : Edges.within(0, 24)) {
            Scene scene = EMPTY.after(b -> b.addStone(cell, 5));
            for (int row : Edges.within(0, 4)) {
                StringBuilder line = new StringBuilder(".....");
                if (cell / 5 == row) {
                    line.setCharAt(cell % 5, '0');
                }
                scene.writes("48 cell " + cell + ", row " + row, line.toString(), b -> b.writeRow(row));
            }
        }
    }

    /** 48: "the row, 0 to 4"; five times some rows beyond would come back to a cell of the board. */
    private static void noSuchRows() {
        int[] wrapping = {858993460, 858993459, -858993460, -858993459, 1717986919, 1717986920, -1717986918};
        for (Scene scene : new Scene[] {EMPTY, BUSY, FULL}) {
            for (int row : Edges.beyond(0, 4)) {
                scene.outside("48 row " + row, b -> b.writeRow(row));
            }
            for (int row : wrapping) {
                scene.outside("48 row " + row, b -> b.writeRow(row));
            }
        }
    }

    /** 48: "the index of the stone in it, or "."", the first and the last stone. */
    private static void fullAndEmptyRows() {
        Scene ten = new Scene(() -> Boards.ready(0, 10));
        ten.writes("48 the first five stones", "01234", b -> b.writeRow(0));
        ten.writes("48 the last five stones", "56789", b -> b.writeRow(1));
        ten.writes("48 no stones", ".....", b -> b.writeRow(2));
        ten.writes("48 no stones in the last row", ".....", b -> b.writeRow(4));
        Scene backwards = EMPTY;
        for (int stone : Edges.within(0, 9)) {
            backwards = backwards.after(b -> b.addStone(24 - stone, 1));
        }
        backwards.writes("48 the last row", "43210", b -> b.writeRow(4));
        backwards.writes("48 the row before", "98765", b -> b.writeRow(3));
    }

    private static void rowsAfterAMove() {
        Scene moved = new Scene(() -> Boards.ready(3, 2)).after(b -> Boards.rule(b, true));
        moved.writes("48 where it came from", ".1...", b -> b.writeRow(0));
        moved.writes("48 where it is", "....0", b -> b.writeRow(4));
        moved.after(b -> b.undo()).writes("48 undone", "01...", b -> b.writeRow(0));
    }

    /** 49: "the output line, which is initially empty". */
    private static void emptyLine() {
        for (int index : Edges.beyond(0, -1)) {
            EMPTY.noLine("49 index " + index + " of none", b -> b.lineCharacter(index));
        }
        EMPTY.afterRefused(b -> b.writeRow(5)).noLine("49 no row was written", b -> b.lineCharacter(0));
        EMPTY.afterRefused(b -> b.writePetition(0))
                .noLine("49 no petition was written", b -> b.lineCharacter(0));
        EMPTY.after(b -> b.feed('x')).noLine("49 the text is no line", b -> b.lineCharacter(0));
    }

    /** 49: "the index, from 0"; "Throws IndexOutOfBoundsException if there is no such index". */
    private static void lineIndices() {
        String row = "....0";
        Scene written = new Scene(() -> Boards.full()).after(b -> b.writeRow(4));
        String line = "#23:7>20@1!7+2-3^15^0^10";
        Scene longer = new Scene(() -> Boards.full()).after(b -> b.writePetition(23));
        for (int index : Edges.within(0, 4)) {
            written.answers("49 index " + index + " of " + row, row.charAt(index), b -> b.lineCharacter(index));
        }
        for (int index : Edges.within(0, line.length() - 1)) {
            longer.answers("49 index " + index + " of " + line, line.charAt(index), b -> b.lineCharacter(index));
        }
        for (int index : Edges.beyond(0, 4)) {
            written.outside("49 index " + index + " of " + row, b -> b.lineCharacter(index));
        }
        for (int index : Edges.beyond(0, line.length() - 1)) {
            longer.outside("49 index " + index + " of " + line, b -> b.lineCharacter(index));
        }
    }

    /** 47, 48: "the output line, which replaces the previous one", a longer one or a shorter one. */
    private static void lineIsReplaced() {
        Scene row = BUSY.after(b -> b.writePetition(7), b -> b.writeRow(0));
        row.outside("49 a shorter line", b -> b.lineCharacter(5));
        row.answers("49 its last sign", '4', b -> b.lineCharacter(4));
        row.writes("48 once more", ".1234", b -> b.writeRow(0));
        row.writes("47 a longer line", "#6:1>20@1!4+1-0", b -> b.writePetition(6));
    }

    /** The output line is affected neither by changes, nor by undo, nor by snapshots, nor by what is refused. */
    private static void lineIsKept() {
        PetitionBoard board = Boards.ready(3, 1);
        board.saveSnapshot();
        board.file(0, 0, 20, 0);
        board.writePetition(0);
        String line = "#0:0>20@0!0+0-0";
        Check.is("49 written", Boards.line(board), line);
        board.vote(1, 0, true);
        Check.is("49 kept over a vote", Boards.line(board), line);
        board.withdraw(0);
        Check.is("49 kept over its withdrawal", Boards.line(board), line);
        Check.absent("47 it is withdrawn", () -> board.writePetition(0));
        Check.outside("48 no such row", () -> board.writeRow(5));
        Check.is("49 kept over what is refused", Boards.line(board), line);
        board.undo();
        Check.is("49 kept over an undo", Boards.line(board), line);
        board.restoreSnapshot();
        Check.is("49 kept over a snapshot", Boards.line(board), line);
        Boards.execute(board, "quorum 1");
        Check.is("49 kept over a text", Boards.line(board), line);
    }
}
