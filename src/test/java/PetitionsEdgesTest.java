/** Promises 11 to 16: each sentence that names an edge. */
public final class PetitionsEdgesTest {
    private static final Scene EMPTY = new Scene(() -> new PetitionBoard());
    private static final Scene BUSY = new Scene(() -> Boards.busy());
    private static final Scene FULL = new Scene(() -> Boards.full());
    /** Six officers of equal rank, ten stones, no petition yet. */
    private static final Scene READY = new Scene(() -> Boards.ready(6, 10));
    /** The petitions 0 to 7 of officer 0, each for the stone of its number. */
    private static final Scene QUEUE = READY.after(b -> Boards.filePetitions(b, 8));

    public static void main(String[] args) {
        fileOfficersAndStones();
        fileCells();
        fileUrgencies();
        fileOnABoardWithoutThem();
        fileOrder();
        fileAskedFor();
        fileFreedStones();
        fileLiesThere();
        fileLimit();
        fileNumbers();
        fileCellsThatOthersHave();
        voteOfficers();
        votePetitions();
        voteOrder();
        voteCounts();
        votePetitioner();
        voteOnce();
        citePetitions();
        citeRulings();
        citeLimit();
        citeOnce();
        citeOrder();
        vetoRanks();
        vetoOfficersAndPetitions();
        vetoOrder();
        vetoCounts();
        withdrawPetitions();
        withdrawCounts();
        pendingCount();
        Check.end();
    }

    /** 11: "the index of the petitioner", "the index of the stone"; no such officer, no such stone. */
    private static void fileOfficersAndStones() {
        for (int officer : Edges.within(0, 5)) {
            READY.changes("11 officer " + officer, 0, b -> b.file(officer, 0, 24, 5));
        }
        for (int stone : Edges.within(0, 9)) {
            READY.changes("11 stone " + stone, 0, b -> b.file(0, stone, 24, 5));
        }
        for (int officer : Edges.beyond(0, 5)) {
            READY.outside("11 officer " + officer, b -> b.file(officer, 0, 24, 5));
        }
        for (int officer : Edges.beyond(0, 4)) {
            BUSY.outside("11 officer " + officer + " of five", b -> b.file(officer, 0, 10, 5));
        }
        for (int stone : Edges.beyond(0, 9)) {
            READY.outside("11 stone " + stone, b -> b.file(0, stone, 24, 5));
        }
        for (int stone : Edges.beyond(0, 5)) {
            BUSY.outside("11 stone " + stone + " of six", b -> b.file(0, stone, 10, 5));
        }
    }

    /** 11: "the cell to which the stone shall be moved, 0 to 24". */
    private static void fileCells() {
        Scene inTheMiddle = new Scene(() -> Boards.ready(1, 0)).after(b -> b.addStone(12, 1));
        for (int cell : Edges.within(0, 24)) {
            if (cell == 12) {
                inTheMiddle.denied("11 its own cell", 4, 12, b -> b.file(0, 0, cell, 5));
            } else {
                inTheMiddle.changes("11 cell " + cell, 0, b -> b.file(0, 0, cell, 5));
            }
        }
        for (int cell : Edges.beyond(0, 24)) {
            READY.outside("11 cell " + cell, b -> b.file(0, 0, cell, 5));
            BUSY.outside("11 cell " + cell, b -> b.file(0, 0, cell, 5));
        }
    }

    /** 11: "the urgency, 0 to 9"; "Throws IllegalArgumentException if the urgency is out of range". */
    private static void fileUrgencies() {
        for (int urgency : Edges.within(0, 9)) {
            READY.changes("11 urgency " + urgency, 0, b -> b.file(0, 0, 24, urgency));
            READY.after(b -> b.file(0, 0, 24, urgency))
                    .writes("11 has urgency " + urgency, "#0:0>24@0!" + urgency + "+0-0", b -> b.writePetition(0));
        }
        for (int urgency : Edges.beyond(0, 9)) {
            READY.unfit("11 urgency " + urgency, b -> b.file(0, 0, 24, urgency));
            BUSY.unfit("11 urgency " + urgency, b -> b.file(0, 0, 10, urgency));
        }
    }

    private static void fileOnABoardWithoutThem() {
        EMPTY.outside("11 no officer and no stone", b -> b.file(0, 0, 0, 0));
        new Scene(() -> Boards.ready(1, 0)).outside("11 no stone", b -> b.file(0, 0, 24, 0));
        new Scene(() -> Boards.ready(0, 1)).outside("11 no officer", b -> b.file(0, 0, 24, 0));
        READY.after(b -> b.undo()).outside("11 a stone that was undone", b -> b.file(0, 9, 24, 0));
    }

    /** 11: officer, stone or cell; then the urgency; then "denied: 3, 4, 1 (8 petitions)". */
    private static void fileOrder() {
        for (int urgency : Edges.beyond(0, 9)) {
            QUEUE.outside("11 officer comes before urgency " + urgency, b -> b.file(6, 8, 24, urgency));
            QUEUE.outside("11 stone comes before urgency " + urgency, b -> b.file(0, 10, 24, urgency));
            QUEUE.outside("11 cell comes before urgency " + urgency, b -> b.file(0, 8, 25, urgency));
            QUEUE.unfit("11 urgency " + urgency + " comes before denial 3", b -> b.file(0, 7, 24, urgency));
            QUEUE.unfit("11 urgency " + urgency + " comes before denial 4", b -> b.file(0, 8, 8, urgency));
            QUEUE.unfit("11 urgency " + urgency + " comes before denial 1", b -> b.file(0, 8, 24, urgency));
        }
        QUEUE.outside("11 officer comes before denial 3", b -> b.file(-1, 0, 24, 0));
        QUEUE.outside("11 officer comes before denial 4", b -> b.file(6, 8, 8, 0));
        QUEUE.outside("11 cell comes before denial 3", b -> b.file(0, 0, 25, 0));
        QUEUE.outside("11 stone comes before denial 1", b -> b.file(0, 10, 24, 0));
        QUEUE.denied("11 denial 3 comes before 4 and 1", 3, 7, b -> b.file(0, 7, 7, 0));
        QUEUE.denied("11 denial 3 comes before 1", 3, 0, b -> b.file(0, 0, 24, 0));
        QUEUE.denied("11 denial 4 comes before 1", 4, 9, b -> b.file(0, 9, 9, 0));
    }

    /** Denial 3: "a pending petition asks for the stone; the detail is its number". */
    private static void fileAskedFor() {
        for (int stone : Edges.within(0, 7)) {
            QUEUE.denied("11 stone " + stone + " is asked for", 3, stone, b -> b.file(1, stone, 24, 9));
            FULL.denied("11 stone " + stone + " at a full board", 3, 16 + stone, b -> b.file(1, stone, 22, 9));
        }
        Scene one = READY.after(b -> b.file(0, 9, 24, 0));
        one.denied("11 for the same cell", 3, 0, b -> b.file(0, 9, 24, 0));
        one.denied("11 for another cell", 3, 0, b -> b.file(0, 9, 20, 9));
        one.denied("11 for its own cell", 3, 0, b -> b.file(5, 9, 9, 9));
        one.afterRefused(b -> b.file(0, 9, 24, 0)).denied("11 after a refused call", 3, 0, b -> b.file(0, 9, 24, 0));
        one.changes("11 another stone", 1, b -> b.file(0, 8, 24, 0));
    }

    /** "At most one pending petition asks for a stone"; what is no longer pending asks for none. */
    private static void fileFreedStones() {
        Scene one = new Scene(() -> Boards.addStones(Boards.withOfficers(5, 6, 7), 2)).after(b -> b.file(0, 0, 24, 0));
        one.after(b -> b.withdraw(0)).changes("11 after a withdrawal", 1, b -> b.file(0, 0, 24, 0));
        one.after(b -> b.veto(1, 0)).changes("11 after a veto", 1, b -> b.file(0, 0, 24, 0));
        one.afterRefused(b -> b.veto(0, 0)).denied("11 after a denied veto", 3, 0, b -> b.file(0, 0, 24, 0));
        one.afterRefused(b -> b.decide()).denied("11 after a denied decision", 3, 0, b -> b.file(0, 0, 24, 0));
        Scene refused = one.after(b -> b.vote(1, 0, false), b -> b.vote(2, 0, false), b -> b.decide());
        refused.changes("11 after a ruling that is not granted", 1, b -> b.file(0, 0, 24, 0));
        Scene granted = one.after(b -> b.vote(1, 0, true), b -> b.vote(2, 0, true), b -> b.decide());
        granted.changes("11 after a ruling that is granted", 1, b -> b.file(0, 0, 0, 0));
        granted.after(b -> b.undo()).denied("11 after its undo", 3, 0, b -> b.file(0, 0, 20, 0));
        one.after(b -> b.undo()).changes("11 after an undo", 0, b -> b.file(0, 0, 20, 0));
    }

    /** Denial 4: "the stone lies in the cell; the detail is the cell". */
    private static void fileLiesThere() {
        for (int cell : Edges.within(0, 9)) {
            READY.denied("11 lies in cell " + cell, 4, cell, b -> b.file(0, cell, cell, 0));
        }
        Scene corner = new Scene(() -> Boards.ready(1, 0)).after(b -> b.addStone(24, 1));
        corner.denied("11 lies in cell 24", 4, 24, b -> b.file(0, 0, 24, 0));
        Scene moved = READY.after(b -> Boards.rule(b, true));
        moved.denied("11 lies where it was moved to", 4, 24, b -> b.file(0, 0, 24, 0));
        moved.changes("11 does not lie where it came from", 1, b -> b.file(0, 0, 0, 0));
    }

    /** Denial 1 with the limit of 8 petitions. */
    private static void fileLimit() {
        Scene seven = READY.after(b -> Boards.filePetitions(b, 7));
        seven.changes("11 the eighth", 7, b -> b.file(5, 9, 20, 9));
        QUEUE.denied("11 the ninth", 1, 8, b -> b.file(0, 8, 20, 9));
        QUEUE.denied("11 the ninth of another officer", 1, 8, b -> b.file(5, 9, 0, 0));
        Scene refused = QUEUE.afterRefused(b -> b.file(0, 8, 20, 9));
        refused.denied("11 the ninth once more", 1, 8, b -> b.file(0, 8, 20, 9));
        refused.answers("11 eight stay eight", 8, b -> b.pendingCount());
        refused.after(b -> b.withdraw(3)).changes("11 room after a withdrawal", 8, b -> b.file(0, 8, 20, 9));
        refused.after(b -> b.undo()).changes("11 room after an undo", 7, b -> b.file(0, 8, 20, 9));
        refused.afterRefused(b -> b.addOfficer(9))
                .denied("11 no room after another refusal", 1, 8, b -> b.file(0, 9, 20, 9));
        Scene decided = QUEUE.after(b -> b.vote(1, 0, false), b -> b.vote(2, 0, false), b -> b.decide());
        decided.changes("11 room after a decision", 8, b -> b.file(0, 8, 20, 9));
        decided.after(b -> b.file(0, 8, 20, 9)).denied("11 full again", 1, 8, b -> b.file(0, 9, 20, 9));
        Scene low = new Scene(() -> Boards.filePetitions(Boards.addStones(Boards.withOfficers(1, 2), 10), 8));
        low.after(b -> b.veto(1, 7)).changes("11 room after a veto", 8, b -> b.file(0, 8, 20, 9));
        FULL.denied("11 the limit at a full board", 1, 8, b -> b.file(5, 9, 22, 9));
    }

    /** "The first petition that is filed has the number 0, and every further one the next number." */
    private static void fileNumbers() {
        PetitionBoard board = Boards.addStones(Boards.withOfficers(5, 6, 7), 2);
        for (int number = 0; number < 130; number++) {
            int stone = number % 2;
            Check.is("11 number " + number, board.file(0, stone, 20, 0), number);
            if (number % 7 == 0) {
                Check.denied("11 a refused one has no number", board, 3, number, () -> board.file(0, stone, 20, 0));
            }
            if (number % 3 == 0) {
                board.veto(1, number);
            } else {
                board.withdraw(number);
            }
        }
        Scene three = READY.after(b -> Boards.filePetitions(b, 3));
        three.after(b -> b.withdraw(2)).changes("11 the last number is not used again", 3, b -> b.file(0, 2, 20, 0));
        three.after(b -> b.undo()).changes("11 but after an undo it is", 2, b -> b.file(0, 5, 20, 0));
        three.after(b -> b.withdraw(2), b -> b.undo()).changes("11 a withdrawal undone", 3, b -> b.file(0, 3, 20, 0));
        three.after(b -> b.saveSnapshot(), b -> b.file(0, 3, 20, 0), b -> b.restoreSnapshot())
                .changes("11 the number of the snapshot", 3, b -> b.file(0, 4, 20, 0));
    }

    private static void fileCellsThatOthersHave() {
        READY.changes("11 an occupied cell", 0, b -> b.file(0, 0, 9, 0));
        READY.after(b -> b.file(0, 0, 24, 0)).changes("11 a cell that is asked for", 1, b -> b.file(0, 1, 24, 0));
        READY.after(b -> b.file(0, 0, 1, 0)).changes("11 two stones for each other's cell", 1,
                b -> b.file(0, 1, 0, 0));
    }

    /** 12: "Throws IndexOutOfBoundsException if there is no such officer". */
    private static void voteOfficers() {
        Scene one = READY.after(b -> b.file(0, 0, 20, 0), b -> b.file(5, 1, 20, 0));
        for (int officer : Edges.within(1, 5)) {
            one.changes("12 officer " + officer + " for", 1, b -> b.vote(officer, 0, true));
            one.changes("12 officer " + officer + " against", 1, b -> b.vote(officer, 0, false));
        }
        one.changes("12 officer 0", 1, b -> b.vote(0, 1, true));
        for (int officer : Edges.beyond(0, 5)) {
            one.outside("12 officer " + officer, b -> b.vote(officer, 0, true));
        }
        for (int officer : Edges.beyond(0, 4)) {
            BUSY.outside("12 officer " + officer + " of five", b -> b.vote(officer, 7, false));
        }
        EMPTY.outside("12 no officer at all", b -> b.vote(0, 0, true));
        BUSY.after(b -> b.addOfficer(1)).changes("12 an officer who came later", 1, b -> b.vote(5, 9, true));
    }

    /** 12: "Throws NoSuchElementException if no pending petition has this number". */
    private static void votePetitions() {
        for (int petition : Edges.within(0, 7)) {
            QUEUE.changes("12 petition " + petition, 1, b -> b.vote(1, petition, true));
        }
        for (int petition : Edges.beyond(0, 7)) {
            QUEUE.absent("12 petition " + petition, b -> b.vote(1, petition, true));
        }
        for (int gone : new int[] {0, 1, 2, 3, 4, 5, 8, 10}) {
            BUSY.absent("12 petition " + gone + " is not pending", b -> b.vote(0, gone, true));
        }
        new Scene(() -> Boards.ready(6, 0)).absent("12 no petition at all", b -> b.vote(0, 0, true));
        QUEUE.after(b -> b.undo()).absent("12 a petition that was undone", b -> b.vote(1, 7, true));
    }

    /** 12: officer, then petition, then "denied: 6, 5". */
    private static void voteOrder() {
        for (int petition : Edges.beyond(0, 7)) {
            QUEUE.outside("12 officer comes before petition " + petition, b -> b.vote(6, petition, true));
            QUEUE.absent("12 petition " + petition + " comes before the petitioner", b -> b.vote(0, petition, true));
        }
        BUSY.outside("12 officer comes before a vote", b -> b.vote(-1, 7, true));
    }

    /** 12: "Returns the number of votes on the petition afterwards", one to five. */
    private static void voteCounts() {
        Scene scene = QUEUE;
        for (int officer : Edges.within(1, 5)) {
            boolean isFor = officer % 2 == 0;
            scene.changes("12 vote " + officer, officer, b -> b.vote(officer, 7, isFor));
            scene = scene.after(b -> b.vote(officer, 7, isFor));
            scene.denied("12 refused after vote " + officer, 5, isFor ? 1 : 0, b -> b.vote(officer, 7, !isFor));
            scene = scene.afterRefused(b -> b.vote(officer, 7, !isFor));
        }
        scene.answers("12 for", 2, b -> b.votesFor(7));
        scene.answers("12 against", 3, b -> b.votesAgainst(7));
        scene.changes("12 another petition has its own votes", 1, b -> b.vote(5, 0, true));
        Scene next = scene.after(b -> b.withdraw(7), b -> b.file(0, 7, 20, 0));
        next.changes("12 the next petition for the stone, too", 1, b -> b.vote(5, 8, true));
    }

    /** Denial 6: "the officer is the petitioner; the detail is the index of the officer". */
    private static void votePetitioner() {
        for (int officer : Edges.within(0, 5)) {
            Scene own = READY.after(b -> b.file(officer, 3, 20, 9));
            own.denied("12 petitioner " + officer + " for", 6, officer, b -> b.vote(officer, 0, true));
            own.denied("12 petitioner " + officer + " against", 6, officer, b -> b.vote(officer, 0, false));
            own.afterRefused(b -> b.vote(officer, 0, true))
                    .denied("12 petitioner " + officer + " once more", 6, officer, b -> b.vote(officer, 0, true));
        }
        FULL.denied("12 the petitioner, with all votes given", 6, 1, b -> b.vote(1, 23, true));
    }

    /** Denial 5: "the officer has voted on the petition; the detail is 1 for a vote for it and 0 for one against". */
    private static void voteOnce() {
        for (int officer : Edges.within(1, 5)) {
            Scene voted = QUEUE.after(b -> b.vote(officer, 2, true), b -> b.vote(officer, 3, false));
            voted.denied("12 " + officer + " for, then for", 5, 1, b -> b.vote(officer, 2, true));
            voted.denied("12 " + officer + " for, then against", 5, 1, b -> b.vote(officer, 2, false));
            voted.denied("12 " + officer + " against, then for", 5, 0, b -> b.vote(officer, 3, true));
            voted.denied("12 " + officer + " against, then against", 5, 0, b -> b.vote(officer, 3, false));
            voted.after(b -> b.undo()).changes("12 " + officer + " after an undo", 1, b -> b.vote(officer, 3, true));
        }
    }

    /** 13: "Throws NoSuchElementException if no pending petition .. has this number". */
    private static void citePetitions() {
        for (int petition : Edges.within(16, 22)) {
            FULL.changes("13 petition " + petition, 1, b -> b.cite(petition, 15));
        }
        for (int petition : Edges.beyond(16, 23)) {
            FULL.absent("13 petition " + petition, b -> b.cite(petition, 1));
        }
        for (int gone : new int[] {0, 1, 2, 3, 4, 5, 8, 10}) {
            BUSY.absent("13 petition " + gone + " is not pending", b -> b.cite(gone, 1));
        }
        EMPTY.absent("13 neither petitions nor rulings", b -> b.cite(0, 0));
        new Scene(() -> Boards.withRulings(1)).absent("13 no petition pending", b -> b.cite(0, 0));
    }

    /** 13: ".. or no ruling has this number". */
    private static void citeRulings() {
        for (int ruling : Edges.within(0, 15)) {
            FULL.changes("13 ruling " + ruling, 1, b -> b.cite(16, ruling));
        }
        for (int ruling : Edges.beyond(0, 15)) {
            FULL.absent("13 ruling " + ruling + " of sixteen", b -> b.cite(16, ruling));
            FULL.absent("13 ruling " + ruling + " with three cited", b -> b.cite(23, ruling));
        }
        for (int ruling : Edges.beyond(0, 2)) {
            BUSY.absent("13 ruling " + ruling + " of three", b -> b.cite(6, ruling));
        }
        QUEUE.absent("13 no ruling at all", b -> b.cite(0, 0));
        BUSY.changes("13 a ruling that is not granted", 1, b -> b.cite(6, 1));
        BUSY.after(b -> b.decide()).changes("13 a ruling that came after the petition", 1, b -> b.cite(9, 3));
        Scene occupied = READY.after(b -> b.file(0, 0, 9, 0), b -> b.vote(1, 0, true), b -> b.vote(2, 0, true),
                b -> b.decide(), b -> b.file(0, 1, 20, 0));
        occupied.changes("13 a ruling that was not carried out", 1, b -> b.cite(1, 0));
    }

    /** 13: "denied: .. 1 (3 citations)"; returns the number of rulings that it cites afterwards. */
    private static void citeLimit() {
        Scene scene = FULL;
        int[] rulings = {15, 0, 7};
        for (int cited : Edges.within(1, 3)) {
            scene.changes("13 citation " + cited, cited, b -> b.cite(16, rulings[cited - 1]));
            scene = scene.after(b -> b.cite(16, rulings[cited - 1]));
        }
        scene.denied("13 the fourth", 1, 3, b -> b.cite(16, 1));
        scene.afterRefused(b -> b.cite(16, 1)).denied("13 the fourth once more", 1, 3, b -> b.cite(16, 14));
        scene.afterRefused(b -> b.cite(16, 1)).after(b -> b.undo()).changes("13 another third", 3, b -> b.cite(16, 1));
        scene.changes("13 another petition has its own citations", 1, b -> b.cite(17, 7));
        scene.after(b -> b.withdraw(16), b -> b.file(0, 0, 20, 0))
                .changes("13 the next petition for the stone, too", 1, b -> b.cite(24, 7));
    }

    /** Denial 7: "the petition cites the ruling; the detail is the number of the ruling". */
    private static void citeOnce() {
        for (int ruling : new int[] {0, 1, 15}) {
            Scene cited = FULL.after(b -> b.cite(16, ruling));
            cited.denied("13 ruling " + ruling + " is cited", 7, ruling, b -> b.cite(16, ruling));
            cited.afterRefused(b -> b.cite(16, ruling))
                    .denied("13 ruling " + ruling + " once more", 7, ruling, b -> b.cite(16, ruling));
            cited.after(b -> b.undo()).changes("13 ruling " + ruling + " undone", 1, b -> b.cite(16, ruling));
            cited.changes("13 after ruling " + ruling, 2, b -> b.cite(16, 9));
        }
    }

    /** 13: "denied: 7, 1": what is cited comes before the limit, for each of three citations. */
    private static void citeOrder() {
        for (int ruling : new int[] {15, 0, 10}) {
            FULL.denied("13 ruling " + ruling + " is cited as one of three", 7, ruling, b -> b.cite(23, ruling));
        }
        FULL.denied("13 a fourth one is not cited", 1, 3, b -> b.cite(23, 9));
        FULL.absent("13 no such petition comes before the limit", b -> b.cite(15, 9));
    }

    /** "An officer can veto .. if the rank of the officer is greater than that of the petitioner"; denial 8. */
    private static void vetoRanks() {
        for (int rank : Edges.within(1, 9)) {
            for (int petitioner : Edges.within(1, 9)) {
                Scene scene = new Scene(() -> Boards.addStones(Boards.withOfficers(rank, petitioner), 1))
                        .after(b -> b.file(1, 0, 20, 5));
                String what = "14 rank " + rank + " against " + petitioner;
                if (rank > petitioner) {
                    scene.changes(what, 0, b -> b.veto(0, 0));
                } else {
                    scene.denied(what, 8, petitioner, b -> b.veto(0, 0));
                }
                scene.denied("14 the petitioner of rank " + petitioner, 8, petitioner, b -> b.veto(1, 0));
            }
        }
        BUSY.denied("14 a rank that is too low", 8, 5, b -> b.veto(3, 7));
        BUSY.afterRefused(b -> b.veto(3, 7)).denied("14 once more", 8, 5, b -> b.veto(0, 9));
        Scene later = BUSY.after(b -> b.addOfficer(6));
        later.changes("14 an officer who came later", 2, b -> b.veto(5, 7));
        later.after(b -> b.veto(5, 7), b -> b.veto(4, 9)).changes("14 the last of the queue", 0, b -> b.veto(5, 6));
    }

    /** 14: no such officer; no pending petition has this number. */
    private static void vetoOfficersAndPetitions() {
        for (int officer : Edges.beyond(0, 4)) {
            BUSY.outside("14 officer " + officer, b -> b.veto(officer, 6));
        }
        EMPTY.outside("14 no officer at all", b -> b.veto(0, 0));
        Scene low = new Scene(() -> Boards.filePetitions(Boards.addStones(Boards.withOfficers(1, 2), 10), 8));
        for (int petition : Edges.within(0, 7)) {
            low.changes("14 petition " + petition, 7, b -> b.veto(1, petition));
        }
        for (int petition : Edges.beyond(0, 7)) {
            low.absent("14 petition " + petition, b -> b.veto(1, petition));
        }
        for (int gone : new int[] {0, 1, 2, 3, 4, 5, 8, 10}) {
            BUSY.absent("14 petition " + gone + " is not pending", b -> b.veto(4, gone));
        }
        low.after(b -> b.veto(1, 3)).absent("14 it is vetoed", b -> b.veto(1, 3));
        low.after(b -> b.veto(1, 3), b -> b.undo()).changes("14 the veto is undone", 7, b -> b.veto(1, 3));
    }

    private static void vetoOrder() {
        for (int officer : Edges.beyond(0, 4)) {
            BUSY.outside("14 officer " + officer + " comes before petition", b -> b.veto(officer, 8));
        }
        BUSY.absent("14 petition comes before the rank", b -> b.veto(1, 8));
    }

    /** 14: "Returns the number of pending petitions afterwards"; "there is no ruling". */
    private static void vetoCounts() {
        Scene scene = new Scene(() -> Boards.filePetitions(Boards.addStones(Boards.withOfficers(8, 9), 10), 8));
        for (int left : new int[] {7, 6, 5, 4, 3, 2, 1, 0}) {
            int petition = (left * 3 + 1) % 8;
            scene.changes("14 the veto that leaves " + left, left, b -> b.veto(1, petition));
            scene = scene.after(b -> b.veto(1, petition));
        }
        scene.answers("14 eight vetoes", 8, b -> b.vetoes());
        scene.answers("14 no ruling", 0, b -> b.rulingCount());
        scene.answers("14 no withdrawal", 0, b -> b.withdrawals());
        scene.absent("14 none is left", b -> b.petitionAt(0));
    }

    /** 15: "Throws NoSuchElementException if no pending petition has this number". */
    private static void withdrawPetitions() {
        for (int petition : Edges.within(0, 7)) {
            QUEUE.changes("15 petition " + petition, 7, b -> b.withdraw(petition));
            QUEUE.after(b -> b.withdraw(petition))
                    .absent("15 petition " + petition + " once more", b -> b.withdraw(petition));
        }
        for (int petition : Edges.beyond(0, 7)) {
            QUEUE.absent("15 petition " + petition, b -> b.withdraw(petition));
        }
        for (int gone : new int[] {0, 1, 2, 3, 4, 5, 8, 10}) {
            BUSY.absent("15 petition " + gone + " is not pending", b -> b.withdraw(gone));
        }
        EMPTY.absent("15 no petition at all", b -> b.withdraw(0));
        FULL.changes("15 a petition with all its votes", 7, b -> b.withdraw(23));
    }

    /** 15: "Returns the number of pending petitions afterwards". */
    private static void withdrawCounts() {
        Scene scene = QUEUE;
        for (int left : new int[] {7, 6, 5, 4, 3, 2, 1, 0}) {
            int petition = (left * 5 + 2) % 8;
            scene.changes("15 the withdrawal that leaves " + left, left, b -> b.withdraw(petition));
            scene = scene.after(b -> b.withdraw(petition));
        }
        scene.answers("15 eight withdrawals", 8, b -> b.withdrawals());
        scene.answers("15 no veto", 0, b -> b.vetoes());
        scene.answers("15 no ruling", 0, b -> b.rulingCount());
        scene.after(b -> b.undo()).answers("15 one withdrawal undone", 1, b -> b.pendingCount());
    }

    /** 16: "Returns the number of petitions", from none to eight. */
    private static void pendingCount() {
        for (int petitions : Edges.within(0, 8)) {
            READY.after(b -> Boards.filePetitions(b, petitions))
                    .answers("16 petitions " + petitions, petitions, b -> b.pendingCount());
        }
        QUEUE.afterRefused(b -> b.file(0, 8, 20, 0)).answers("16 after the ninth", 8, b -> b.pendingCount());
        QUEUE.after(b -> b.undo()).answers("16 after an undo", 7, b -> b.pendingCount());
        BUSY.answers("16 only the pending", 3, b -> b.pendingCount());
        FULL.afterRefused(b -> b.decide()).answers("16 after a denied decision", 8, b -> b.pendingCount());
    }
}
