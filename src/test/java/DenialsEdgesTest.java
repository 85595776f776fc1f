/** The denials of "Terms" and promises 50 to 53: each sentence that names an edge. */
public final class DenialsEdgesTest {
    private static final Scene EMPTY = new Scene(() -> new PetitionBoard());
    /** A busy board whose text buffer is empty. */
    private static final Scene BUSY = new Scene(() -> Boards.busy()).afterRefused(b -> b.execute());
    /** A full board whose text buffer is empty. */
    private static final Scene FULL = new Scene(() -> Boards.full()).afterRefused(b -> b.execute());

    public static void main(String[] args) {
        nothingDenied();
        otherExceptionsAreNoDenials();
        eachLimit();
        eachReason();
        eachLimitAsACause();
        eachReasonAsACause();
        otherExceptionsAsACause();
        causeOfTheLatest();
        keptUntilTheNext();
        Check.end();
    }

    /** 50 to 53: "Throws NoSuchElementException if nothing was denied yet". */
    private static void nothingDenied() {
        notYet("a new board", EMPTY);
        notYet("after changes", new Scene(() -> Boards.ready(6, 10)).after(b -> b.setQuorum(1), b -> b.undo()));
        notYet("after a text", EMPTY.after(b -> Boards.execute(b, "officer 1;stone 0 1")));
    }

    private static void notYet(String what, Scene scene) {
        scene.nothingKept("50 " + what, b -> b.denial());
        scene.nothingKept("51 " + what, b -> b.denialDetail());
        scene.nothingKept("52 " + what, b -> b.denialCause());
        scene.nothingKept("53 " + what, b -> b.denialCauseDetail());
    }

    private static void otherExceptionsAreNoDenials() {
        Scene scene = EMPTY.afterRefused(b -> b.addStone(25, 1), b -> b.addStone(0, 0), b -> b.addOfficer(10),
                b -> b.file(0, 0, 0, 0), b -> b.vote(0, 0, true), b -> b.cite(0, 0), b -> b.veto(0, 0),
                b -> b.withdraw(0), b -> b.setQuorum(6), b -> b.execute(), b -> b.undo(), b -> b.restoreSnapshot(),
                b -> b.meanVotes(), b -> b.cellOf(0), b -> b.stoneIn(0), b -> b.denial());
        notYet("after other exceptions", scene);
    }

    private static void is(String what, Scene scene, int number, int detail) {
        scene.answers("50 " + what, number, b -> b.denial());
        scene.answers("51 " + what, detail, b -> b.denialDetail());
        scene.nothingKept("52 " + what + " has no cause", b -> b.denialCause());
        scene.nothingKept("53 " + what + " has no cause", b -> b.denialCauseDetail());
    }

    /** "Denial 1: a limit is reached; the detail is the limit." */
    private static void eachLimit() {
        is("10 stones", FULL.afterRefused(b -> b.addStone(22, 1)), 1, 10);
        is("6 officers", FULL.afterRefused(b -> b.addOfficer(1)), 1, 6);
        is("8 petitions", FULL.afterRefused(b -> b.file(0, 8, 22, 0)), 1, 8);
        is("3 citations", FULL.afterRefused(b -> b.cite(23, 1)), 1, 3);
        is("16 rulings", FULL.afterRefused(b -> b.decide()), 1, 16);
    }

    private static void eachReason() {
        is("an occupied cell", BUSY.afterRefused(b -> b.addStone(3, 1)), 2, 3);
        is("a stone that is asked for", BUSY.afterRefused(b -> b.file(0, 3, 10, 0)), 3, 9);
        is("a stone that lies there", BUSY.afterRefused(b -> b.file(0, 4, 4, 0)), 4, 4);
        is("a vote for it", BUSY.afterRefused(b -> b.vote(1, 7, false)), 5, 1);
        is("a vote against it", BUSY.afterRefused(b -> b.vote(2, 7, true)), 5, 0);
        is("the petitioner", BUSY.afterRefused(b -> b.vote(3, 9, true)), 6, 3);
        is("a cited ruling", BUSY.afterRefused(b -> b.cite(7, 2)), 7, 2);
        is("a rank that is too low", BUSY.afterRefused(b -> b.veto(1, 7)), 8, 5);
        is("none pending", EMPTY.afterRefused(b -> b.decide()), 9, 0);
        is("too few votes", BUSY.after(b -> b.withdraw(7)).afterRefused(b -> b.decide()), 10, 0);
        is("the present value", BUSY.afterRefused(b -> b.setQuorum(2)), 11, 2);
    }

    /** "Denial 12 .. Only denial 12 has a cause: the denial of the failed command with its detail". */
    private static void eachLimitAsACause() {
        FULL.textDenied("stone 22 1", 0, 1, 10);
        FULL.textDenied("officer 1", 0, 1, 6);
        FULL.textDenied("file 0 8 22 0", 0, 1, 8);
        FULL.textDenied("cite 23 1", 0, 1, 3);
        FULL.textDenied("decide", 0, 1, 16);
    }

    private static void eachReasonAsACause() {
        BUSY.textDenied("stone 3 1", 0, 2, 3);
        BUSY.textDenied("file 0 3 10 0", 0, 3, 9);
        BUSY.textDenied("file 0 4 4 0", 0, 4, 4);
        BUSY.textDenied("no 1 7", 0, 5, 1);
        BUSY.textDenied("yes 2 7", 0, 5, 0);
        BUSY.textDenied("yes 3 9", 0, 6, 3);
        BUSY.textDenied("no 0 7", 0, 6, 0);
        BUSY.textDenied("cite 7 2", 0, 7, 2);
        BUSY.textDenied("cite 7 0", 0, 7, 0);
        BUSY.textDenied("veto 1 7", 0, 8, 5);
        EMPTY.textDenied("decide", 0, 9, 0);
        BUSY.textDenied("withdraw 7;decide", 1, 10, 0);
        BUSY.textDenied("quorum 2", 0, 11, 2);
    }

    /** ".. or denial 13 with detail 0 if the command failed with an exception other than" a denial. */
    private static void otherExceptionsAsACause() {
        String[] texts = {"stone 25 1", "stone 6 0", "officer 0", "quorum 0", "quorum 6", "file 5 0 9 9",
            "file 0 6 9 9", "file 0 0 25 9", "yes 5 7", "no 0 8", "cite 8 0", "cite 7 3", "veto 5 7", "veto 4 8",
            "withdraw 8"};
        for (String text : texts) {
            BUSY.textDenied(text, 0, 13, 0);
            BUSY.textDenied("quorum 5;" + text, 1, 13, 0);
        }
        // A command that would be denied as well fails with the exception that is documented first.
        FULL.textDenied("stone 1 0", 0, 13, 0);
        FULL.textDenied("stone 25 1", 0, 13, 0);
        FULL.textDenied("officer 0", 0, 13, 0);
        FULL.textDenied("cite 23 16", 0, 13, 0);
    }

    private static void caused(String what, Scene scene, int command, int cause, int causeDetail) {
        scene.answers("50 " + what, 12, b -> b.denial());
        scene.answers("51 " + what, command, b -> b.denialDetail());
        scene.answers("52 " + what, cause, b -> b.denialCause());
        scene.answers("53 " + what, causeDetail, b -> b.denialCauseDetail());
    }

    /** 52, 53: ".. or the latest denial has no cause"; a cause goes with its denial. */
    private static void causeOfTheLatest() {
        Scene first = EMPTY.afterRefused(b -> Boards.execute(b, "quorum 2"));
        caused("the first command", first, 0, 11, 2);
        Scene second = first.afterRefused(b -> Boards.execute(b, "quorum 3;withdraw 0"));
        caused("the second command", second, 1, 13, 0);
        Scene none = second.afterRefused(b -> b.decide());
        is("a denial without a cause", none, 9, 0);
        caused("a cause again", none.afterRefused(b -> Boards.execute(b, "decide")), 0, 9, 0);
        caused("the same denial with another cause", first.afterRefused(b -> Boards.execute(b, "decide")), 0, 9, 0);
        Scene present = none.afterRefused(b -> b.setQuorum(2));
        is("another reason", present, 11, 2);
        Scene another = present.after(b -> b.setQuorum(3)).afterRefused(b -> b.setQuorum(3));
        is("the same reason with another detail", another, 11, 3);
    }

    /** "The number, the detail and the cause of the latest denial are kept until the next denial." */
    private static void keptUntilTheNext() {
        Scene caused = new Scene(() -> Boards.ready(3, 3)).afterRefused(b -> Boards.execute(b, "quorum 4;stone 1 1"));
        Scene plain = caused.afterRefused(b -> b.addStone(2, 1));
        Scene.Call[] others = {b -> b.addOfficer(1), b -> b.undo(), b -> b.saveSnapshot(), b -> b.restoreSnapshot(),
            b -> b.file(0, 0, 20, 0), b -> b.writePetition(0), b -> b.writeRow(0), b -> b.feed('x'),
            b -> b.execute(), b -> Boards.execute(b, "quorum 5;quorum 4"), b -> b.addStone(25, 1),
            b -> b.addStone(9, 0), b -> b.withdraw(9), b -> b.cite(0, 0), b -> b.veto(9, 0), b -> b.setQuorum(0),
            b -> b.wouldBeGranted(0), b -> b.grantedShare(), b -> b.denial(), b -> b.denialCause()};
        for (int i = 0; i < others.length; i++) {
            Scene.Call other = others[i];
            caused = caused.after(b -> Check.answer(() -> other.on(b)));
            caused("kept over call " + i, caused, 1, 2, 1);
            plain = plain.after(b -> Check.answer(() -> other.on(b)));
            is("kept over call " + i, plain, 2, 2);
        }
        is("the next denial", caused.afterRefused(b -> b.vote(0, 0, true)), 6, 0);
    }
}
