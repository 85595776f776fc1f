/** Promises 44 to 46: each sentence that names an edge, but for the grammar. */
public final class TextsEdgesTest {
    private static final Scene EMPTY = new Scene(() -> new PetitionBoard());
    /** A busy board whose text buffer is empty. */
    private static final Scene BUSY = new Scene(() -> Boards.busy()).afterRefused(b -> b.execute());
    /** A full board whose text buffer is empty. */
    private static final Scene FULL = new Scene(() -> Boards.full()).afterRefused(b -> b.execute());
    /** Sixty characters, which end too early. */
    private static final String SIXTY = "decide;decide;decide;decide;decide;decide;decide;decide;deci";

    public static void main(String[] args) {
        feedLengths();
        feedAnyCharacter();
        feedFull();
        feedIsNoChange();
        emptyAfterExecution();
        faultsChangeNothingElse();
        faultsComeBeforeDenials();
        stonesOfTexts();
        officersAndQuorumsOfTexts();
        petitionsOfTexts();
        votesOfTexts();
        citationsOfTexts();
        endsOfPetitionsOfTexts();
        decisionsOfTexts();
        greatestNumber();
        commandCounts();
        laterCommandsSeeEarlierOnes();
        allOrNone();
        eachStoneIsMovedBack();
        oneChange();
        faultPosition();
        Check.end();
    }

    /** 44: "Returns the length of the buffer afterwards", one to sixty. */
    private static void feedLengths() {
        PetitionBoard board = new PetitionBoard();
        for (int length = 1; length <= 60; length++) {
            Check.is("44 length " + length, board.feed(' '), length);
        }
        Check.illegalState("44 the 61st", () -> board.feed(' '));
        Check.illegalState("44 the 61st once more", () -> board.feed('d'));
        Check.unfit("45 sixty spaces", () -> board.execute());
        Check.is("44 room again", board.feed(' '), 1);
    }

    /** 44: "any character", the first and the last of all, and halves of pairs. */
    private static void feedAnyCharacter() {
        for (int character : new int[] {0, 10, 127, 128, 255, 256, 'd' + 256, 0xD800, 0xDC00, 0xFFFE, 0xFFFF}) {
            PetitionBoard board = new PetitionBoard();
            Check.is("44 character " + character, board.feed((char) character), 1);
            Check.is("44 after character " + character, board.feed((char) character), 2);
            Check.unfit("45 character " + character, () -> board.execute());
            Check.is("46 character " + character, board.faultPosition(), 0);
        }
    }

    /** 44: "Throws IllegalStateException if the buffer has 60 characters"; the buffer stays as it is. */
    private static void feedFull() {
        Scene scene = EMPTY.after(b -> Boards.feed(b, SIXTY));
        for (char character : new char[] {'d', 'x', ';', ' ', 0, 0xFFFF}) {
            scene.illegalState("44 full, character " + (int) character, b -> b.feed(character));
        }
        new Scene(() -> Boards.full()).illegalState("44 at a full board", b -> b.feed('d'));
        BUSY.after(b -> Boards.feed(b, SIXTY)).illegalState("44 full at a busy board", b -> b.feed('d'));
        PetitionBoard board = new PetitionBoard();
        Boards.feed(board, "stone 5 1;stone 6 1;stone 7 1;stone 10 1;stone 11 1;quorum ");
        Check.is("44 the 60th", board.feed('3'), 60);
        Check.illegalState("44 the 61st", () -> board.feed('4'));
        Check.is("45 all sixty", board.execute(), 6);
        Check.is("45 not the 61st", board.quorum(), 3);
    }

    private static void feedIsNoChange() {
        PetitionBoard board = Boards.busy();
        String line = Boards.line(board);
        String denial = Boards.denial(board);
        String look = Boards.look(Boards.busy());
        Check.is("44 one more", board.feed('1'), 8);
        Check.is("44 no change", board.undoCount(), 8);
        Check.is("44 the line stays", Boards.line(board), line);
        Check.is("44 the denial stays", Boards.denial(board), denial);
        Check.is("44 the fault position stays", board.faultPosition(), 8);
        Check.is("44 all else stays", Boards.look(board), look);
        Check.is("45 the text is whole", board.execute(), 1);
        Check.is("45 it is executed", board.quorum(), 1);
    }

    /** 45: "The buffer is empty afterwards, even if an exception is thrown." */
    private static void emptyAfterExecution() {
        String[] texts = {"quorum 5", "quorum 2", "stone 25 1", "quorum", "", SIXTY};
        String[] answers = {"1", "UnsupportedOperationException", "UnsupportedOperationException",
            "IllegalArgumentException", "IllegalArgumentException", "IllegalArgumentException"};
        for (int i = 0; i < texts.length; i++) {
            PetitionBoard board = new PetitionBoard();
            Boards.feed(board, texts[i]);
            Check.is("45 \"" + texts[i] + "\"", Check.answer(() -> board.execute()), answers[i]);
            Check.unfit("45 empty after \"" + texts[i] + "\"", () -> board.execute());
            Check.is("46 empty after \"" + texts[i] + "\"", board.faultPosition(), 0);
            Check.is("44 empty after \"" + texts[i] + "\"", board.feed('x'), 1);
        }
    }

    /** 45: "Throws IllegalArgumentException if the buffer does not match the grammar; the fault position is kept". */
    private static void faultsChangeNothingElse() {
        for (Scene scene : new Scene[] {EMPTY, BUSY, FULL}) {
            scene.textFault("", 0);
            scene.textFault("x", 0);
            scene.textFault("decide;", 7);
            scene.textFault("quorum 1;quorum 3;quorum", 24);
            scene.textFault("withdraw 16;decide;officer 10", 28);
        }
        BUSY.textFault(SIXTY, 60);
    }

    /** A text that does not match executes none of its commands, so that none of them fails. */
    private static void faultsComeBeforeDenials() {
        for (Scene scene : new Scene[] {EMPTY, BUSY, FULL}) {
            scene.textFault("quorum 2;quorum 2;", 18);
            scene.textFault("stone 25 1;stone 25 1 ", 21);
            scene.textFault("officer 0;x", 10);
        }
    }

    private static void text(Scene scene, String text, int commands) {
        scene.changes("45 \"" + text + "\"", commands, b -> Boards.execute(b, text));
    }

    /** The state after a text is the state after the call of the method. */
    private static void same(Scene scene, String text, Scene.Call call) {
        text(scene, text, 1);
        scene.alike("45 \"" + text + "\" is the call", b -> Boards.execute(b, text), call);
    }

    /** "stone " number " " digit: the cell and the weight. */
    private static void stonesOfTexts() {
        same(BUSY, "stone 6 1", b -> b.addStone(6, 1));
        same(BUSY, "stone 06 9", b -> b.addStone(6, 9));
        same(BUSY, "stone 22 3", b -> b.addStone(22, 3));
        same(EMPTY, "stone 0 1", b -> b.addStone(0, 1));
        same(EMPTY, "stone 00 1", b -> b.addStone(0, 1));
        same(EMPTY, "stone 24 9", b -> b.addStone(24, 9));
        for (String wrong : new String[] {"stone 25 1", "stone 99 1", "stone 6 0", "stone 25 0"}) {
            BUSY.textDenied(wrong, 0, 13, 0);
            FULL.textDenied(wrong, 0, 13, 0);
        }
    }

    private static void officersAndQuorumsOfTexts() {
        for (int rank : Edges.within(1, 9)) {
            same(BUSY, "officer " + rank, b -> b.addOfficer(rank));
        }
        BUSY.textDenied("officer 0", 0, 13, 0);
        FULL.textDenied("officer 0", 0, 13, 0);
        for (int quorum : new int[] {1, 3, 4, 5}) {
            same(BUSY, "quorum " + quorum, b -> b.setQuorum(quorum));
        }
        for (int quorum : new int[] {0, 6, 7, 8, 9}) {
            BUSY.textDenied("quorum " + quorum, 0, 13, 0);
        }
    }

    /** "file " digit " " digit " " number " " digit: the officer, the stone, the cell and the urgency. */
    private static void petitionsOfTexts() {
        Scene ready = new Scene(() -> Boards.ready(6, 10));
        same(ready, "file 0 0 24 0", b -> b.file(0, 0, 24, 0));
        same(ready, "file 5 9 0 9", b -> b.file(5, 9, 0, 9));
        same(ready, "file 1 2 3 4", b -> b.file(1, 2, 3, 4));
        same(ready, "file 4 3 02 1", b -> b.file(4, 3, 2, 1));
        for (String wrong : new String[] {"file 6 0 24 0", "file 9 0 24 0", "file 0 0 25 0", "file 0 0 99 9"}) {
            ready.textDenied(wrong, 0, 13, 0);
        }
        BUSY.textDenied("file 0 6 24 0", 0, 13, 0);
        BUSY.textDenied("file 0 9 24 0", 0, 13, 0);
    }

    /** "yes " and "no " digit " " number: the officer and the petition. */
    private static void votesOfTexts() {
        same(BUSY, "yes 0 6", b -> b.vote(0, 6, true));
        same(BUSY, "no 0 06", b -> b.vote(0, 6, false));
        same(BUSY, "yes 4 07", b -> b.vote(4, 7, true));
        same(BUSY, "no 4 9", b -> b.vote(4, 9, false));
        for (String wrong : new String[] {"yes 5 6", "no 5 6", "yes 9 6", "no 9 6", "yes 0 5", "no 0 5", "yes 0 10",
            "no 0 10", "yes 0 99", "no 0 99"}) {
            BUSY.textDenied(wrong, 0, 13, 0);
        }
    }

    /** "cite " number " " number: the petition and the ruling. */
    private static void citationsOfTexts() {
        same(BUSY, "cite 6 2", b -> b.cite(6, 2));
        same(BUSY, "cite 09 00", b -> b.cite(9, 0));
        same(BUSY, "cite 7 01", b -> b.cite(7, 1));
        same(FULL, "cite 22 15", b -> b.cite(22, 15));
        for (String wrong : new String[] {"cite 6 3", "cite 6 99", "cite 5 0", "cite 8 1", "cite 10 0", "cite 99 99"}) {
            BUSY.textDenied(wrong, 0, 13, 0);
        }
        FULL.textDenied("cite 22 16", 0, 13, 0);
    }

    private static void endsOfPetitionsOfTexts() {
        same(BUSY, "veto 2 9", b -> b.veto(2, 9));
        same(BUSY, "veto 4 06", b -> b.veto(4, 6));
        same(BUSY, "withdraw 9", b -> b.withdraw(9));
        same(BUSY, "withdraw 06", b -> b.withdraw(6));
        same(FULL, "withdraw 23", b -> b.withdraw(23));
        for (String wrong : new String[] {"veto 5 9", "veto 9 9", "veto 2 8", "veto 2 10", "veto 2 99", "withdraw 0",
            "withdraw 00", "withdraw 8", "withdraw 10", "withdraw 99"}) {
            BUSY.textDenied(wrong, 0, 13, 0);
        }
    }

    private static void decisionsOfTexts() {
        same(BUSY, "decide", b -> b.decide());
        EMPTY.textDenied("decide", 0, 9, 0);
        FULL.textDenied("decide", 0, 1, 16);
    }

    /** A number has at most two digits: petition 99 can be named, petition 100 cannot. */
    private static void greatestNumber() {
        PetitionBoard board = Boards.ready(2, 3);
        for (int petition = 0; petition < 99; petition++) {
            board.withdraw(board.file(0, 0, 20, 0));
        }
        board.file(0, 1, 20, 0);
        board.file(0, 2, 20, 0);
        Check.is("45 petition 99", Boards.execute(board, "yes 1 99"), 1);
        Check.is("45 its vote", board.votesFor(99), 1);
        Check.unfit("45 petition 100", () -> Boards.execute(board, "yes 1 100"));
        Check.is("46 petition 100", board.faultPosition(), 8);
        Check.is("45 no vote for the other", board.votesFor(100), 0);
    }

    /** 45: "Returns the number of commands", one to eight. */
    private static void commandCounts() {
        Scene scene = new Scene(() -> Boards.filePetitions(Boards.ready(6, 10), 8));
        String text = "no 1 0";
        for (int commands : Edges.within(1, 8)) {
            text(scene, text, commands);
            text = text + ";no 1 " + commands;
        }
        text(EMPTY, "stone 5 1;stone 6 1;stone 7 1;stone 10 1;stone 11 1;quorum 3", 6);
    }

    /** 45: "executes its commands in their order" */
    private static void laterCommandsSeeEarlierOnes() {
        text(EMPTY, "officer 1;officer 2;stone 0 9;file 0 0 24 9;yes 1 0;quorum 1", 6);
        EMPTY.textDenied("file 0 0 24 9;officer 1;officer 2;stone 0 9", 0, 13, 0);
        PetitionBoard board = Boards.withOfficers(1, 2, 3);
        Check.is("45 a whole life", Boards.execute(board, "stone 0 9;file 0 0 24 9;yes 1 0;no 2 0;decide"), 5);
        Check.is("45 decided by a tie", board.isGranted(0), false);
        Check.is("45 and another", Boards.execute(board, "file 1 0 24 1;yes 0 1;yes 2 1;cite 1 0;decide"), 5);
        Check.is("45 decided by both", board.isGranted(1), true);
        Check.is("45 in their order", board.citation(1, 0), 0);
        BUSY.textDenied("withdraw 9;withdraw 9", 1, 13, 0);
        text(BUSY, "withdraw 9;file 3 3 0 7;withdraw 10", 3);
        text(BUSY, "quorum 1;quorum 5;quorum 4;quorum 3", 4);
    }

    /** 45: "either all of them or none", whichever of eight commands fails. */
    private static void allOrNone() {
        Scene scene = new Scene(() -> Boards.filePetitions(Boards.ready(6, 10), 8));
        String start = "";
        for (int failing : Edges.within(0, 7)) {
            String rest = failing < 7 ? ";no 2 7" : "";
            scene.textDenied(start + "no 0 0" + rest, failing, 6, 0);
            scene.textDenied(start + "no 9 0" + rest, failing, 13, 0);
            start = start + "no 1 " + failing + ";";
        }
        scene.textDenied("withdraw 0;file 0 0 9 9;quorum 1;yes 1 7;yes 0 8", 4, 6, 0);
        BUSY.textDenied("veto 4 9;decide;stone 3 1", 2, 2, 3);
        BUSY.textDenied("decide;officer 9;officer 9", 2, 1, 6);
        FULL.textDenied("withdraw 16;withdraw 17;decide", 2, 1, 16);
    }

    private static void eachStoneIsMovedBack() {
        for (int stone : Edges.within(0, 9)) {
            new Scene(() -> Boards.ready(3, 10))
                    .after(b -> b.file(0, stone, 20, 0), b -> b.vote(1, 0, true), b -> b.vote(2, 0, true))
                    .textDenied("decide;decide", 1, 9, 1);
        }
    }

    /** "The calls .. of execute, that do not throw an exception are the changes": a text is one. */
    private static void oneChange() {
        PetitionBoard board = Boards.ready(0, 1);
        Check.is("45 three commands", Boards.execute(board, "officer 1;officer 2;officer 3"), 3);
        Check.is("55 one change", board.undoCount(), 2);
        Check.is("54 its undo", board.undo(), 1);
        Check.is("54 undoes all", board.officerCount(), 0);
        for (int i = 0; i < 9; i++) {
            Boards.execute(board, i % 2 == 0 ? "quorum 5;quorum 4" : "quorum 3;quorum 1");
        }
        Check.is("55 the oldest text is forgotten", board.undoCount(), 8);
        Check.is("54 back to the first text", Boards.undo(board, 8), "0");
        Check.is("54 after the first text", board.quorum(), 4);
        Check.illegalState("54 no further", () -> board.undo());
    }

    /** 46: "Returns the fault position that was kept last"; "if none was kept yet". */
    private static void faultPosition() {
        EMPTY.nothingKept("46 none", b -> b.faultPosition());
        EMPTY.after(b -> Boards.execute(b, "quorum 3")).nothingKept("46 none by a match", b -> b.faultPosition());
        EMPTY.afterRefused(b -> Boards.execute(b, "quorum 2"))
                .nothingKept("46 none by a denial", b -> b.faultPosition());
        EMPTY.after(b -> Boards.feed(b, "x")).nothingKept("46 none by a character", b -> b.faultPosition());
        EMPTY.afterRefused(b -> b.execute()).answers("46 the least", 0, b -> b.faultPosition());
        Scene greatest = EMPTY.afterRefused(b -> Boards.execute(b, SIXTY));
        greatest.answers("46 the greatest", 60, b -> b.faultPosition());
        greatest.after(b -> Boards.execute(b, "quorum 3")).answers("46 over a match", 60, b -> b.faultPosition());
        greatest.afterRefused(b -> Boards.execute(b, "quorum 2"))
                .answers("46 over a denial", 60, b -> b.faultPosition());
        greatest.after(b -> Boards.feed(b, "x")).answers("46 over a character", 60, b -> b.faultPosition());
        greatest.after(b -> b.saveSnapshot(), b -> b.addOfficer(1), b -> b.undo(), b -> b.restoreSnapshot())
                .answers("46 over undo and snapshots", 60, b -> b.faultPosition());
        greatest.afterRefused(b -> b.execute()).answers("46 the last one", 0, b -> b.faultPosition());
    }
}
