import java.util.NoSuchElementException;

/**
 * A case management system for petitions to move stones on a board: a queue by rank and urgency,
 * votes with a quorum, vetoes, and rulings that cite earlier rulings as precedents.
 */
public final class PetitionBoard {
    private static final int CELLS = 25;
    private static final int ROWS = 5;
    private static final int STONE_LIMIT = 10;
    private static final int OFFICER_LIMIT = 6;
    private static final int PENDING_LIMIT = 8;
    private static final int RULING_LIMIT = 16;
    private static final int CITATION_LIMIT = 3;
    private static final int CHANGE_LIMIT = 8;
    private static final int TEXT_LIMIT = 60;
    private static final int FIRST_QUORUM = 2;
    private static final int GREATEST_QUORUM = 5;

    // No command is shorter than six characters, so no text begins more of them than this.
    private static final int COMMAND_LIMIT = TEXT_LIMIT / 6;

    private static final int LIMIT_REACHED = 1;
    private static final int CELL_OCCUPIED = 2;
    private static final int STONE_ASKED_FOR = 3;
    private static final int STONE_LIES_THERE = 4;
    private static final int HAS_VOTED = 5;
    private static final int IS_PETITIONER = 6;
    private static final int IS_CITED = 7;
    private static final int RANK_TOO_LOW = 8;
    private static final int NONE_PENDING = 9;
    private static final int TOO_FEW_VOTES = 10;
    private static final int PRESENT_VALUE = 11;
    private static final int COMMAND_FAILED = 12;
    private static final int OTHER_FAILURE = 13;

    // What an attempt answers when it changes nothing; no due answer is negative.
    private static final int OUTSIDE = -1;
    private static final int UNFIT = -2;
    private static final int ABSENT = -3;
    private static final int DENIED = -4;

    private static final int NONE = -1;

    private final State state;
    private final State snapshot;
    private final History history;
    private final Line text;
    private final Line output;
    private final TextReader reader;
    // Kept from call to call so that the ranking makes no new array.
    private final int[] influences;
    private boolean hasSnapshot;
    private int keptFault;
    private int reason;
    private int reasonDetail;
    private int latestDenial;
    private int latestDetail;
    private int latestCause;
    private int latestCauseDetail;

    public PetitionBoard() {
        state = new State();
        snapshot = new State();
        history = new History();
        text = new Line();
        output = new Line();
        reader = new TextReader();
        influences = new int[RULING_LIMIT];
        keptFault = NONE;
    }

    // ---- stones and officers

    public int addStone(int cell, int weight)
            throws IndexOutOfBoundsException, IllegalArgumentException, UnsupportedOperationException {
        history.prepare(state);
        return conclude(placeStone(cell, weight));
    }

    public int addOfficer(int rank) throws IllegalArgumentException, UnsupportedOperationException {
        history.prepare(state);
        return conclude(enlistOfficer(rank));
    }

    public int stoneCount() {
        return state.stoneCount;
    }

    public int cellOf(int stone) throws IndexOutOfBoundsException {
        if (!state.hasStone(stone)) {
            throw new IndexOutOfBoundsException("no such stone");
        }
        return state.stoneCell[stone];
    }

    public int weightOf(int stone) throws IndexOutOfBoundsException {
        if (!state.hasStone(stone)) {
            throw new IndexOutOfBoundsException("no such stone");
        }
        return state.stoneWeight[stone];
    }

    public int stoneIn(int cell) throws IndexOutOfBoundsException, NoSuchElementException {
        if (!isCell(cell)) {
            throw new IndexOutOfBoundsException("no such cell");
        }
        int stone = state.findStoneIn(cell);
        if (stone == NONE) {
            throw new NoSuchElementException("no stone is in the cell");
        }
        return stone;
    }

    public int officerCount() {
        return state.officerCount;
    }

    public int rankOf(int officer) throws IndexOutOfBoundsException {
        if (!state.hasOfficer(officer)) {
            throw new IndexOutOfBoundsException("no such officer");
        }
        return state.officerRank[officer];
    }

    public int petitionsOf(int officer) throws IndexOutOfBoundsException {
        if (!state.hasOfficer(officer)) {
            throw new IndexOutOfBoundsException("no such officer");
        }
        int petitions = 0;
        for (int i = 0; i < state.pendingCount; i++) {
            if (state.pending[i].petitioner == officer) {
                petitions++;
            }
        }
        return petitions;
    }

    // ---- petitions

    public int file(int officer, int stone, int cell, int urgency)
            throws IndexOutOfBoundsException, IllegalArgumentException, UnsupportedOperationException {
        history.prepare(state);
        return conclude(lodgePetition(officer, stone, cell, urgency));
    }

    public int vote(int officer, int petition, boolean isFor)
            throws IndexOutOfBoundsException, NoSuchElementException, UnsupportedOperationException {
        history.prepare(state);
        return conclude(castVote(officer, petition, isFor));
    }

    public int cite(int petition, int ruling) throws NoSuchElementException, UnsupportedOperationException {
        history.prepare(state);
        return conclude(citeRuling(petition, ruling));
    }

    public int veto(int officer, int petition)
            throws IndexOutOfBoundsException, NoSuchElementException, UnsupportedOperationException {
        history.prepare(state);
        return conclude(vetoPetition(officer, petition));
    }

    public int withdraw(int petition) throws NoSuchElementException {
        history.prepare(state);
        return conclude(withdrawPetition(petition));
    }

    public int pendingCount() {
        return state.pendingCount;
    }

    public int petitionAt(int position) throws NoSuchElementException {
        if (position < 0 || position >= state.pendingCount) {
            throw new NoSuchElementException("no such position");
        }
        return state.pending[position].number;
    }

    public int positionOf(int petition) throws NoSuchElementException {
        Petition found = requirePetition(petition);
        int before = 0;
        for (int i = 0; i < state.pendingCount; i++) {
            if (state.pending[i].comesBefore(found)) {
                before++;
            }
        }
        return before;
    }

    public int stoneOf(int petition) throws NoSuchElementException {
        return requirePetition(petition).stone;
    }

    public int targetOf(int petition) throws NoSuchElementException {
        return requirePetition(petition).target;
    }

    public int votesFor(int petition) throws NoSuchElementException {
        return requirePetition(petition).countFor();
    }

    public int votesAgainst(int petition) throws NoSuchElementException {
        return requirePetition(petition).countAgainst();
    }

    public boolean wouldBeGranted(int petition) throws NoSuchElementException {
        return state.isWon(requirePetition(petition));
    }

    // ---- decisions and rulings

    public int setQuorum(int quorum) throws IllegalArgumentException, UnsupportedOperationException {
        history.prepare(state);
        return conclude(changeQuorum(quorum));
    }

    public int decide() throws UnsupportedOperationException {
        history.prepare(state);
        return conclude(decideFirst());
    }

    public int quorum() {
        return state.quorum;
    }

    public int rulingCount() {
        return state.rulingCount;
    }

    public boolean isGranted(int ruling) throws IndexOutOfBoundsException {
        return requireRuling(ruling).granted;
    }

    public boolean isCarriedOut(int ruling) throws IndexOutOfBoundsException {
        return requireRuling(ruling).carriedOut;
    }

    public int citationCount(int ruling) throws IndexOutOfBoundsException {
        return requireRuling(ruling).cited;
    }

    public int citation(int ruling, int position) throws IndexOutOfBoundsException, NoSuchElementException {
        Ruling found = requireRuling(ruling);
        if (position < 0 || position >= found.cited) {
            throw new NoSuchElementException("no such position");
        }
        return found.citedAt(position);
    }

    public int citedBy(int ruling) throws IndexOutOfBoundsException {
        requireRuling(ruling);
        int citing = 0;
        for (int i = ruling + 1; i < state.rulingCount; i++) {
            if (state.rulings[i].refersTo(ruling)) {
                citing++;
            }
        }
        return citing;
    }

    public int depth(int ruling) throws IndexOutOfBoundsException {
        return requireRuling(ruling).level;
    }

    public boolean isBasedOn(int ruling, int other) throws IndexOutOfBoundsException {
        requireRuling(ruling);
        requireRuling(other);
        return state.restsOn(ruling, other);
    }

    public int influence(int ruling) throws IndexOutOfBoundsException {
        requireRuling(ruling);
        int based = 0;
        for (int i = 0; i < state.rulingCount; i++) {
            if (state.restsOn(i, ruling)) {
                based++;
            }
        }
        return based;
    }

    public int influenceByMarking(int ruling) throws IndexOutOfBoundsException {
        requireRuling(ruling);
        return state.countMarked(ruling);
    }

    public int rulingByInfluence(int rank) throws NoSuchElementException {
        if (rank < 0 || rank >= state.rulingCount) {
            throw new NoSuchElementException("no such rank");
        }
        for (int i = 0; i < state.rulingCount; i++) {
            influences[i] = state.countMarked(i);
        }
        int found = NONE;
        for (int i = 0; i < state.rulingCount; i++) {
            if (rankByInfluence(i) == rank) {
                found = i;
            }
        }
        return found;
    }

    // ---- statistics

    public int filedCount() {
        return state.filedCount;
    }

    public int vetoes() {
        return state.vetoCount;
    }

    public int withdrawals() {
        return state.withdrawalCount;
    }

    public int movedWeight() {
        return state.movedWeight;
    }

    public double meanVotes() throws ArithmeticException {
        if (state.pendingCount == 0) {
            throw new ArithmeticException("no petition is pending");
        }
        int votes = 0;
        for (int i = 0; i < state.pendingCount; i++) {
            votes += state.pending[i].countVotes();
        }
        return (double) votes / (double) state.pendingCount;
    }

    public float grantedShare() throws ArithmeticException {
        if (state.rulingCount == 0) {
            throw new ArithmeticException("there are no rulings");
        }
        int granted = 0;
        for (int i = 0; i < state.rulingCount; i++) {
            if (state.rulings[i].granted) {
                granted++;
            }
        }
        return (float) granted / (float) state.rulingCount;
    }

    // ---- texts and output lines

    public int feed(char character) throws IllegalStateException {
        if (text.length >= TEXT_LIMIT) {
            throw new IllegalStateException("the text buffer is full");
        }
        text.put(character);
        return text.length;
    }

    public int execute() throws IllegalArgumentException, UnsupportedOperationException {
        boolean fits = reader.read(text);
        text.clear();
        if (!fits) {
            keptFault = reader.place;
            throw new IllegalArgumentException("the text does not match the grammar");
        }
        history.prepare(state);
        if (!runCommands()) {
            history.bringBackPrepared(state);
            throw new UnsupportedOperationException("a command failed");
        }
        history.keepPrepared();
        return reader.count;
    }

    public int faultPosition() throws NoSuchElementException {
        if (keptFault == NONE) {
            throw new NoSuchElementException("no fault position was kept yet");
        }
        return keptFault;
    }

    public int writePetition(int petition) throws NoSuchElementException {
        Petition found = requirePetition(petition);
        output.clear();
        output.putMarked('#', found.number);
        output.putMarked(':', found.stone);
        output.putMarked('>', found.target);
        output.putMarked('@', found.petitioner);
        output.putMarked('!', found.urgency);
        output.putMarked('+', found.countFor());
        output.putMarked('-', found.countAgainst());
        for (int i = 0; i < found.cited; i++) {
            output.putMarked('^', found.citedAt(i));
        }
        return output.length;
    }

    public int writeRow(int row) throws IndexOutOfBoundsException {
        if (row < 0 || row >= ROWS) {
            throw new IndexOutOfBoundsException("no such row");
        }
        output.clear();
        for (int cell = ROWS * row; cell < ROWS * row + ROWS; cell++) {
            int stone = state.findStoneIn(cell);
            if (stone == NONE) {
                output.put('.');
            } else {
                output.putNumber(stone);
            }
        }
        return output.length;
    }

    public char lineCharacter(int index) throws IndexOutOfBoundsException {
        if (index < 0 || index >= output.length) {
            throw new IndexOutOfBoundsException("no such index");
        }
        return output.at(index);
    }

    // ---- the latest denial

    public int denial() throws NoSuchElementException {
        requireDenial();
        return latestDenial;
    }

    public int denialDetail() throws NoSuchElementException {
        requireDenial();
        return latestDetail;
    }

    public int denialCause() throws NoSuchElementException {
        requireCause();
        return latestCause;
    }

    public int denialCauseDetail() throws NoSuchElementException {
        requireCause();
        return latestCauseDetail;
    }

    // ---- undo and snapshots

    public int undo() throws IllegalStateException {
        if (history.count == 0) {
            throw new IllegalStateException("no change can be undone");
        }
        history.bringBackLatest(state);
        return history.count;
    }

    public int undoCount() {
        return history.count;
    }

    public int saveSnapshot() {
        snapshot.copyFrom(state);
        hasSnapshot = true;
        return state.pendingCount;
    }

    public int restoreSnapshot() throws IllegalStateException {
        if (!hasSnapshot) {
            throw new IllegalStateException("there is no snapshot");
        }
        state.copyFrom(snapshot);
        history.forget();
        return state.pendingCount;
    }

    // ---- attempts: each answers what its call returns, or why it changed nothing

    private int placeStone(int cell, int weight) {
        if (!isCell(cell)) {
            return OUTSIDE;
        }
        if (weight < 1 || weight > 9) {
            return UNFIT;
        }
        int there = state.findStoneIn(cell);
        if (there != NONE) {
            return deny(CELL_OCCUPIED, there);
        }
        if (state.stoneCount >= STONE_LIMIT) {
            return deny(LIMIT_REACHED, STONE_LIMIT);
        }
        return state.appendStone(cell, weight);
    }

    private int enlistOfficer(int rank) {
        if (rank < 1 || rank > 9) {
            return UNFIT;
        }
        if (state.officerCount >= OFFICER_LIMIT) {
            return deny(LIMIT_REACHED, OFFICER_LIMIT);
        }
        return state.appendOfficer(rank);
    }

    private int changeQuorum(int quorum) {
        if (quorum < 1 || quorum > GREATEST_QUORUM) {
            return UNFIT;
        }
        if (quorum == state.quorum) {
            return deny(PRESENT_VALUE, quorum);
        }
        int before = state.quorum;
        state.quorum = quorum;
        return before;
    }

    private int lodgePetition(int officer, int stone, int cell, int urgency) {
        if (!state.hasOfficer(officer) || !state.hasStone(stone) || !isCell(cell)) {
            return OUTSIDE;
        }
        if (urgency < 0 || urgency > 9) {
            return UNFIT;
        }
        Petition rival = state.findPetitionFor(stone);
        if (rival != null) {
            return deny(STONE_ASKED_FOR, rival.number);
        }
        if (state.stoneCell[stone] == cell) {
            return deny(STONE_LIES_THERE, cell);
        }
        if (state.pendingCount >= PENDING_LIMIT) {
            return deny(LIMIT_REACHED, PENDING_LIMIT);
        }
        return state.enqueue(officer, stone, cell, urgency);
    }

    private int castVote(int officer, int petition, boolean isFor) {
        if (!state.hasOfficer(officer)) {
            return OUTSIDE;
        }
        Petition found = state.findPetition(petition);
        if (found == null) {
            return ABSENT;
        }
        if (found.petitioner == officer) {
            return deny(IS_PETITIONER, officer);
        }
        if (found.hasVoteFor(officer)) {
            return deny(HAS_VOTED, 1);
        }
        if (found.hasVoteAgainst(officer)) {
            return deny(HAS_VOTED, 0);
        }
        found.addVote(officer, isFor);
        return found.countVotes();
    }

    private int citeRuling(int petition, int ruling) {
        Petition found = state.findPetition(petition);
        if (found == null || state.findRuling(ruling) == null) {
            return ABSENT;
        }
        if (found.refersTo(ruling)) {
            return deny(IS_CITED, ruling);
        }
        if (found.cited >= CITATION_LIMIT) {
            return deny(LIMIT_REACHED, CITATION_LIMIT);
        }
        found.addCited(ruling);
        return found.cited;
    }

    private int vetoPetition(int officer, int petition) {
        if (!state.hasOfficer(officer)) {
            return OUTSIDE;
        }
        Petition found = state.findPetition(petition);
        if (found == null) {
            return ABSENT;
        }
        if (state.officerRank[officer] <= found.rank) {
            return deny(RANK_TOO_LOW, found.rank);
        }
        state.dequeue(found);
        state.vetoCount++;
        return state.pendingCount;
    }

    private int withdrawPetition(int petition) {
        Petition found = state.findPetition(petition);
        if (found == null) {
            return ABSENT;
        }
        state.dequeue(found);
        state.withdrawalCount++;
        return state.pendingCount;
    }

    private int decideFirst() {
        if (state.pendingCount == 0) {
            return deny(NONE_PENDING, state.rulingCount);
        }
        Petition first = state.pending[0];
        if (first.countVotes() < state.quorum) {
            return deny(TOO_FEW_VOTES, first.countVotes());
        }
        if (state.rulingCount >= RULING_LIMIT) {
            return deny(LIMIT_REACHED, RULING_LIMIT);
        }
        return state.rule(first);
    }

    /** Sets the reason aside: a call makes it the latest denial, a text the cause of one. */
    private int deny(int number, int detail) {
        reason = number;
        reasonDetail = detail;
        return DENIED;
    }

    private int conclude(int answer) {
        if (answer == OUTSIDE) {
            throw new IndexOutOfBoundsException("no such stone, officer or cell");
        }
        if (answer == UNFIT) {
            throw new IllegalArgumentException("a value is out of range");
        }
        if (answer == ABSENT) {
            throw new NoSuchElementException("no such pending petition or ruling");
        }
        if (answer == DENIED) {
            keepDenial(reason, reasonDetail, 0, 0);
            throw new UnsupportedOperationException("the call is denied");
        }
        history.keepPrepared();
        return answer;
    }

    /** Says whether all commands succeeded; the first that fails ends the run. */
    private boolean runCommands() {
        for (int i = 0; i < reader.count; i++) {
            int answer = attempt(reader.commands[i]);
            if (answer == DENIED) {
                keepDenial(COMMAND_FAILED, i, reason, reasonDetail);
                return false;
            }
            if (answer < 0) {
                keepDenial(COMMAND_FAILED, i, OTHER_FAILURE, 0);
                return false;
            }
        }
        return true;
    }

    private int attempt(Command command) {
        switch (command.letter) {
            case 's':
                return placeStone(command.first, command.second);
            case 'o':
                return enlistOfficer(command.first);
            case 'q':
                return changeQuorum(command.first);
            case 'f':
                return lodgePetition(command.first, command.second, command.third, command.fourth);
            case 'y':
                return castVote(command.first, command.second, true);
            case 'n':
                return castVote(command.first, command.second, false);
            case 'c':
                return citeRuling(command.first, command.second);
            case 'v':
                return vetoPetition(command.first, command.second);
            case 'w':
                return withdrawPetition(command.first);
            default:
                return decideFirst();
        }
    }

    private void keepDenial(int number, int detail, int cause, int causeDetail) {
        latestDenial = number;
        latestDetail = detail;
        latestCause = cause;
        latestCauseDetail = causeDetail;
    }

    // ---- helpers of the questions

    private static boolean isCell(int cell) {
        return cell >= 0 && cell < CELLS;
    }

    private Petition requirePetition(int number) {
        Petition found = state.findPetition(number);
        if (found == null) {
            throw new NoSuchElementException("no such pending petition");
        }
        return found;
    }

    private Ruling requireRuling(int number) {
        Ruling found = state.findRuling(number);
        if (found == null) {
            throw new IndexOutOfBoundsException("no such ruling");
        }
        return found;
    }

    private void requireDenial() {
        if (latestDenial == 0) {
            throw new NoSuchElementException("nothing was denied yet");
        }
    }

    private void requireCause() {
        if (latestCause == 0) {
            throw new NoSuchElementException("no denial with a cause is the latest");
        }
    }

    private int rankByInfluence(int ruling) {
        int before = 0;
        for (int i = 0; i < state.rulingCount; i++) {
            boolean isStronger = influences[i] > influences[ruling];
            boolean isEarlierEqual = influences[i] == influences[ruling] && i < ruling;
            if (isStronger || isEarlierEqual) {
                before++;
            }
        }
        return before;
    }

    /** Up to three rulings in the order in which they were cited. */
    private abstract static class Citing {
        int cited;
        private int firstCited;
        private int secondCited;
        private int thirdCited;

        int citedAt(int position) {
            return position == 0 ? firstCited : position == 1 ? secondCited : thirdCited;
        }

        boolean refersTo(int ruling) {
            for (int i = 0; i < cited; i++) {
                if (citedAt(i) == ruling) {
                    return true;
                }
            }
            return false;
        }

        void addCited(int ruling) {
            if (cited == 0) {
                firstCited = ruling;
            } else if (cited == 1) {
                secondCited = ruling;
            } else {
                thirdCited = ruling;
            }
            cited++;
        }

        void copyCited(Citing other) {
            cited = other.cited;
            firstCited = other.firstCited;
            secondCited = other.secondCited;
            thirdCited = other.thirdCited;
        }
    }

    private static final class Petition extends Citing {
        int number;
        int petitioner;
        // The petitioner's rank never changes, so the queue need not ask for it again.
        int rank;
        int stone;
        int target;
        int urgency;
        // Bit n of a set stands for officer n.
        private int votersFor;
        private int votersAgainst;

        void forgetVotesAndCitations() {
            votersFor = 0;
            votersAgainst = 0;
            cited = 0;
        }

        boolean comesBefore(Petition other) {
            if (rank != other.rank) {
                return rank > other.rank;
            }
            if (urgency != other.urgency) {
                return urgency > other.urgency;
            }
            return number < other.number;
        }

        boolean hasVoteFor(int officer) {
            return (votersFor >> officer & 1) == 1;
        }

        boolean hasVoteAgainst(int officer) {
            return (votersAgainst >> officer & 1) == 1;
        }

        void addVote(int officer, boolean isFor) {
            if (isFor) {
                votersFor |= 1 << officer;
            } else {
                votersAgainst |= 1 << officer;
            }
        }

        int countFor() {
            return Integer.bitCount(votersFor);
        }

        int countAgainst() {
            return Integer.bitCount(votersAgainst);
        }

        int countVotes() {
            return countFor() + countAgainst();
        }

        void copyFrom(Petition other) {
            copyCited(other);
            number = other.number;
            petitioner = other.petitioner;
            rank = other.rank;
            stone = other.stone;
            target = other.target;
            urgency = other.urgency;
            votersFor = other.votersFor;
            votersAgainst = other.votersAgainst;
        }
    }

    private static final class Ruling extends Citing {
        boolean granted;
        boolean carriedOut;
        int level;

        void copyFrom(Ruling other) {
            copyCited(other);
            granted = other.granted;
            carriedOut = other.carriedOut;
            level = other.level;
        }
    }

    /** Everything that changes can change; the rows are made once and used again. */
    private static final class State {
        final int[] stoneCell = new int[STONE_LIMIT];
        final int[] stoneWeight = new int[STONE_LIMIT];
        final int[] officerRank = new int[OFFICER_LIMIT];
        // The pending petitions come first, in the order of the queue; the other rows are spare.
        final Petition[] pending = new Petition[PENDING_LIMIT];
        final Ruling[] rulings = new Ruling[RULING_LIMIT];
        int stoneCount;
        int officerCount;
        int pendingCount;
        int rulingCount;
        int quorum;
        int filedCount;
        int vetoCount;
        int withdrawalCount;
        int movedWeight;

        State() {
            for (int i = 0; i < PENDING_LIMIT; i++) {
                pending[i] = new Petition();
            }
            for (int i = 0; i < RULING_LIMIT; i++) {
                rulings[i] = new Ruling();
            }
            quorum = FIRST_QUORUM;
        }

        void copyFrom(State other) {
            System.arraycopy(other.stoneCell, 0, stoneCell, 0, STONE_LIMIT);
            System.arraycopy(other.stoneWeight, 0, stoneWeight, 0, STONE_LIMIT);
            System.arraycopy(other.officerRank, 0, officerRank, 0, OFFICER_LIMIT);
            for (int i = 0; i < other.pendingCount; i++) {
                pending[i].copyFrom(other.pending[i]);
            }
            for (int i = 0; i < other.rulingCount; i++) {
                rulings[i].copyFrom(other.rulings[i]);
            }
            stoneCount = other.stoneCount;
            officerCount = other.officerCount;
            pendingCount = other.pendingCount;
            rulingCount = other.rulingCount;
            quorum = other.quorum;
            filedCount = other.filedCount;
            vetoCount = other.vetoCount;
            withdrawalCount = other.withdrawalCount;
            movedWeight = other.movedWeight;
        }

        boolean hasStone(int stone) {
            return stone >= 0 && stone < stoneCount;
        }

        boolean hasOfficer(int officer) {
            return officer >= 0 && officer < officerCount;
        }

        int findStoneIn(int cell) {
            for (int i = 0; i < stoneCount; i++) {
                if (stoneCell[i] == cell) {
                    return i;
                }
            }
            return NONE;
        }

        Petition findPetition(int number) {
            for (int i = 0; i < pendingCount; i++) {
                if (pending[i].number == number) {
                    return pending[i];
                }
            }
            return null;
        }

        Petition findPetitionFor(int stone) {
            for (int i = 0; i < pendingCount; i++) {
                if (pending[i].stone == stone) {
                    return pending[i];
                }
            }
            return null;
        }

        Ruling findRuling(int number) {
            if (number < 0 || number >= rulingCount) {
                return null;
            }
            return rulings[number];
        }

        int appendStone(int cell, int weight) {
            int stone = stoneCount;
            stoneCell[stone] = cell;
            stoneWeight[stone] = weight;
            stoneCount++;
            return stone;
        }

        int appendOfficer(int rank) {
            int officer = officerCount;
            officerRank[officer] = rank;
            officerCount++;
            return officer;
        }

        int enqueue(int officer, int stone, int cell, int urgency) {
            Petition petition = pending[pendingCount];
            petition.number = filedCount;
            petition.petitioner = officer;
            petition.rank = officerRank[officer];
            petition.stone = stone;
            petition.target = cell;
            petition.urgency = urgency;
            petition.forgetVotesAndCitations();
            moveToItsPosition(petition);
            pendingCount++;
            filedCount++;
            return petition.number;
        }

        private void moveToItsPosition(Petition petition) {
            int position = pendingCount;
            while (position > 0 && petition.comesBefore(pending[position - 1])) {
                pending[position] = pending[position - 1];
                position--;
            }
            pending[position] = petition;
        }

        void dequeue(Petition petition) {
            int kept = 0;
            for (int i = 0; i < pendingCount; i++) {
                if (pending[i] != petition) {
                    pending[kept] = pending[i];
                    kept++;
                }
            }
            // The row is spare from now on, not lost.
            if (kept < pendingCount) {
                pending[kept] = petition;
                pendingCount = kept;
            }
        }

        boolean isWon(Petition petition) {
            int lead = petition.countFor() - petition.countAgainst();
            for (int i = 0; i < petition.cited; i++) {
                Ruling precedent = findRuling(petition.citedAt(i));
                lead += precedent != null && precedent.granted ? 1 : -1;
            }
            return lead > 0;
        }

        int rule(Petition petition) {
            Ruling ruling = rulings[rulingCount];
            ruling.copyCited(petition);
            ruling.level = levelAbove(petition);
            ruling.granted = isWon(petition);
            ruling.carriedOut = ruling.granted && findStoneIn(petition.target) == NONE;
            if (ruling.carriedOut) {
                moveStone(petition.stone, petition.target);
            }
            dequeue(petition);
            rulingCount++;
            return rulingCount - 1;
        }

        private int levelAbove(Citing citing) {
            int level = 0;
            for (int i = 0; i < citing.cited; i++) {
                Ruling precedent = findRuling(citing.citedAt(i));
                if (precedent != null && precedent.level >= level) {
                    level = precedent.level + 1;
                }
            }
            return level;
        }

        private void moveStone(int stone, int cell) {
            if (hasStone(stone)) {
                stoneCell[stone] = cell;
                movedWeight += stoneWeight[stone];
            }
        }

        /** Citations lead to smaller numbers only, so one pass downwards follows them all. */
        boolean restsOn(int ruling, int other) {
            int reached = citedSet(ruling);
            for (int i = ruling - 1; i > other; i--) {
                if ((reached >> i & 1) == 1) {
                    reached |= citedSet(i);
                }
            }
            return (reached >> other & 1) == 1;
        }

        int countMarked(int ruling) {
            int marked = 1 << ruling;
            for (int i = ruling + 1; i < rulingCount; i++) {
                if ((citedSet(i) & marked) != 0) {
                    marked |= 1 << i;
                }
            }
            return Integer.bitCount(marked) - 1;
        }

        private int citedSet(int ruling) {
            int set = 0;
            Ruling found = findRuling(ruling);
            if (found != null) {
                for (int i = 0; i < found.cited; i++) {
                    set |= 1 << found.citedAt(i);
                }
            }
            return set;
        }
    }

    /** The states before the latest changes, the oldest first, and one row more to prepare the next. */
    private static final class History {
        private final State[] rows = new State[CHANGE_LIMIT + 1];
        int count;

        History() {
            for (int i = 0; i <= CHANGE_LIMIT; i++) {
                rows[i] = new State();
            }
        }

        void prepare(State state) {
            rows[count].copyFrom(state);
        }

        void bringBackPrepared(State state) {
            state.copyFrom(rows[count]);
        }

        void keepPrepared() {
            if (count < CHANGE_LIMIT) {
                count++;
                return;
            }
            State oldest = rows[0];
            for (int i = 0; i < CHANGE_LIMIT; i++) {
                rows[i] = rows[i + 1];
            }
            rows[CHANGE_LIMIT] = oldest;
        }

        void bringBackLatest(State state) {
            if (count > 0) {
                count--;
                state.copyFrom(rows[count]);
            }
        }

        void forget() {
            count = 0;
        }
    }

    /** A row of characters that grows at its end. */
    private static final class Line {
        private final char[] characters = new char[TEXT_LIMIT];
        int length;

        void clear() {
            length = 0;
        }

        void put(char character) {
            if (length < TEXT_LIMIT) {
                characters[length] = character;
                length++;
            }
        }

        void putMarked(char mark, int number) {
            put(mark);
            putNumber(number);
        }

        void putNumber(int number) {
            int digits = 1;
            for (int rest = number / 10; rest > 0; rest = rest / 10) {
                digits++;
            }
            if (digits > TEXT_LIMIT - length) {
                return;
            }
            int rest = number;
            for (int i = length + digits - 1; i >= length; i--) {
                characters[i] = (char) ('0' + rest % 10);
                rest = rest / 10;
            }
            length += digits;
        }

        /** Past the end it answers a character that no command contains. */
        char at(int index) {
            return index >= 0 && index < length ? characters[index] : (char) 0;
        }
    }

    /** A command of a text: the first letter of its word, which no two words share, and its values. */
    private static final class Command {
        char letter;
        int first;
        int second;
        int third;
        int fourth;
        private int values;

        void begin(char newLetter) {
            letter = newLetter;
            values = 0;
        }

        void add(int value) {
            if (values == 0) {
                first = value;
            } else if (values == 1) {
                second = value;
            } else if (values == 2) {
                third = value;
            } else {
                fourth = value;
            }
            values++;
        }
    }

    /** Reads a text into commands; where it does not match, its place is the fault position. */
    private static final class TextReader {
        final Command[] commands = new Command[COMMAND_LIMIT];
        int count;
        int place;

        TextReader() {
            for (int i = 0; i < COMMAND_LIMIT; i++) {
                commands[i] = new Command();
            }
        }

        boolean read(Line text) {
            place = 0;
            count = 0;
            while (count < COMMAND_LIMIT) {
                if (!readCommand(text, commands[count])) {
                    return false;
                }
                count++;
                if (place == text.length) {
                    return true;
                }
                if (!readSign(text, ';')) {
                    return false;
                }
            }
            return false;
        }

        private boolean readCommand(Line text, Command command) {
            char letter = text.at(place);
            String pattern = patternOf(letter);
            if (pattern.isEmpty()) {
                return false;
            }
            command.begin(letter);
            for (int i = 0; i < pattern.length(); i++) {
                if (!readPart(text, command, pattern.charAt(i))) {
                    return false;
                }
            }
            return true;
        }

        private boolean readPart(Line text, Command command, char part) {
            if (part == 'D' || part == 'N') {
                return readValue(text, command, part == 'N');
            }
            return readSign(text, part);
        }

        /** D stands for a digit, N for a number. */
        private static String patternOf(char letter) {
            switch (letter) {
                case 's':
                    return "stone N D";
                case 'o':
                    return "officer D";
                case 'q':
                    return "quorum D";
                case 'f':
                    return "file D D N D";
                case 'y':
                    return "yes D N";
                case 'n':
                    return "no D N";
                case 'c':
                    return "cite N N";
                case 'v':
                    return "veto D N";
                case 'w':
                    return "withdraw N";
                case 'd':
                    return "decide";
                default:
                    return "";
            }
        }

        private boolean readSign(Line text, char sign) {
            if (text.at(place) != sign) {
                return false;
            }
            place++;
            return true;
        }

        private boolean readValue(Line text, Command command, boolean mayHaveTwoDigits) {
            if (!isDigit(text.at(place))) {
                return false;
            }
            int value = text.at(place) - '0';
            place++;
            if (mayHaveTwoDigits && isDigit(text.at(place))) {
                value = value * 10 + text.at(place) - '0';
                place++;
            }
            command.add(value);
            return true;
        }

        private static boolean isDigit(char sign) {
            return sign >= '0' && sign <= '9';
        }
    }
}
