/** Long runs of calls, each answered by the program and by the plain board, which must agree. */
public final class RandomRunsTest {
    private static final int RUNS = 1500;
    private static final int CALLS = 512;
    private static final int KINDS = 56;
    private static final int[] CHANGES = {9, 9, 9, 9, 9, 9, 9, 9, 10, 10, 10, 10, 10, 10, 10, 10, 10, 10, 10, 10,
        10, 10, 11, 11, 11, 11, 11, 11, 23, 23, 23, 23, 23, 23, 0, 0, 1, 12, 13, 22};
    private static final int[] PARTS = {48, 49, 50, 51, 53, 36, 14, 25};

    private static long seed = 20261119;

    private PetitionBoard board;
    private PlainBoard plain;
    private int made;
    private StringBuilder trace;
    private boolean agrees;
    private int noise;

    public static void main(String[] args) {
        for (int i = 0; i < RUNS; i++) {
            new RandomRunsTest().run(i);
        }
        Check.end();
    }

    /** The same numbers in each run of the tests, on each machine. */
    private static int random(int bound) {
        seed = seed * 6364136223846793005L + 1442695040888963407L;
        return (int) ((seed >>> 33) % bound);
    }

    private void run(int number) {
        board = new PetitionBoard();
        plain = new PlainBoard();
        trace = new StringBuilder();
        agrees = true;
        // Quiet runs get far, noisy ones ask for much that is wrong.
        noise = number % 5 == 0 ? 4 : 25;
        setUp();
        while (agrees && made < CALLS) {
            int choice = random(200);
            if (choice < 90) {
                change(CHANGES[random(CHANGES.length)]);
            } else if (choice < 110) {
                seeThrough();
            } else if (choice < 114) {
                textRun();
            } else if (choice < 118) {
                undoSome();
            } else if (choice < 120) {
                call(random(noise) < 2 ? 55 : 54, 0, 0, 0, 0);
            } else {
                question();
            }
        }
        Check.is("run " + number + trace, agrees, true);
    }

    private void setUp() {
        int officers = random(4) == 0 ? random(7) : 3 + random(4);
        for (int i = 0; i < officers; i++) {
            change(1);
        }
        int stones = random(4) == 0 ? random(12) : 6 + random(6);
        for (int i = 0; i < stones; i++) {
            change(0);
        }
    }

    /** What it takes to get a ruling, so that some runs reach the limit of rulings. */
    private void seeThrough() {
        if (plainCount(14) == 0) {
            change(9);
        }
        int first = pendingNumber();
        int citations = random(4);
        for (int i = 0; i < citations; i++) {
            call(11, first, index(plainCount(25)), 0, 0);
        }
        int votes = 2 + random(4);
        for (int i = 0; i < votes; i++) {
            call(10, index(plainCount(6)), first, favour(), 0);
        }
        call(23, 0, 0, 0, 0);
    }

    private void undoSome() {
        int times = random(10) == 0 ? 9 : 1 + random(3);
        for (int i = 0; i < times; i++) {
            call(52, 0, 0, 0, 0);
        }
    }

    private boolean isNoise() {
        return random(noise) == 0;
    }

    private void change(int kind) {
        call(kind, argument(kind, 0), argument(kind, 1), argument(kind, 2), isNoise() ? random(13) - 1 : random(10));
        if (random(6) == 0) {
            for (int part : PARTS) {
                call(part, 0, 0, 0, 0);
            }
        }
    }

    private void question() {
        int kind = random(KINDS - 2);
        if (kind == 42 || kind == 52) {
            kind = 47;
        }
        call(kind, argument(kind, 0), argument(kind, 1), argument(kind, 2), random(10));
        if (kind == 45 || kind == 46) {
            for (int i = 0; i < 6; i++) {
                call(47, random(26) - 1, 0, 0, 0);
            }
        }
    }

    private int plainCount(int kind) {
        return (Integer) plain.call(kind, 0, 0, 0, 0);
    }

    /** Mostly the number of a pending petition, and often that of the first one. */
    private int pendingNumber() {
        int pending = plainCount(14);
        if (pending == 0 || isNoise()) {
            return random(20) - 1;
        }
        return (Integer) plain.call(15, random(2) == 0 ? 0 : random(pending), 0, 0, 0);
    }

    /** Mostly an index below the count, at times the count itself or less than 0. */
    private int index(int count) {
        return count == 0 || isNoise() ? random(count + 2) - 1 : random(count);
    }

    private int argument(int kind, int position) {
        if (isNoise() && random(8) == 0) {
            return random(2) == 0 ? Integer.MAX_VALUE : Integer.MIN_VALUE;
        }
        switch (kind) {
            case 0: return position == 0 ? index(25) : 1 + index(9);
            case 1: return 1 + index(9);
            case 3: case 4: return index(plainCount(2));
            case 5: return index(25);
            case 7: case 8: return index(plainCount(6));
            case 9: return index(position == 0 ? plainCount(6) : position == 1 ? plainCount(2) : 25);
            case 10: return position == 0 ? index(plainCount(6)) : position == 1 ? pendingNumber() : favour();
            case 11: return position == 0 ? pendingNumber() : index(plainCount(25));
            case 12: return position == 0 ? index(plainCount(6)) : pendingNumber();
            case 13: case 16: case 17: case 18: case 19: case 20: case 21: case 45: return pendingNumber();
            case 15: return index(plainCount(14));
            case 22: return 1 + index(random(3) == 0 ? 5 : 2);
            case 29: return position == 0 ? index(plainCount(25)) : index(3);
            case 47: return index(26);
            case 46: return index(5);
            default: return index(plainCount(25));
        }
    }

    /** Even numbers are votes for the petition. */
    private static int favour() {
        return random(3) == 0 ? 1 : 0;
    }

    private void textRun() {
        StringBuilder text = new StringBuilder();
        int commands = random(4) + 1;
        for (int i = 0; i < commands; i++) {
            text.append(i == 0 ? "" : ";").append(command());
        }
        if (random(4) == 0) {
            text.setCharAt(random(text.length()), "0123456789 ;abcdefino".charAt(random(21)));
        }
        if (random(8) == 0) {
            text.setLength(random(text.length() + 1));
        }
        for (int i = 0; i < text.length() && agrees; i++) {
            call(42, text.charAt(i), 0, 0, 0);
        }
        call(43, 0, 0, 0, 0);
        call(44, 0, 0, 0, 0);
        for (int part : PARTS) {
            call(part, 0, 0, 0, 0);
        }
    }

    private String command() {
        int petition = Math.max(0, pendingNumber());
        int ruling = Math.max(0, index(plainCount(25)));
        int stone = Math.max(0, index(plainCount(2)));
        int officer = isNoise() ? random(10) : Math.max(0, index(plainCount(6)));
        switch (random(13)) {
            case 0: return "stone " + random(26) + " " + random(10);
            case 1: return "officer " + random(10);
            case 2: return "quorum " + random(7);
            case 3: return "file " + officer + " " + stone + " " + random(26) + " " + random(10);
            case 4: case 5: return "yes " + officer + " " + petition;
            case 6: return "no " + officer + " " + petition;
            case 7: case 8: return "cite " + petition + " " + ruling;
            case 9: return "veto " + officer + " " + petition;
            case 10: return "withdraw " + petition;
            default: return "decide";
        }
    }

    private void call(int kind, int a, int b, int c, int d) {
        if (!agrees || made >= CALLS) {
            return;
        }
        made++;
        String due = answer(() -> plain.call(kind, a, b, c, d));
        String got = answer(() -> call(board, kind, a, b, c, d));
        trace.append("\n  call ").append(kind).append(' ').append(a).append(' ').append(b).append(' ').append(c)
                .append(' ').append(d).append(": ").append(got);
        if (!got.equals(due)) {
            trace.append(", due is ").append(due);
            agrees = false;
        }
    }

    private static String answer(java.util.function.Supplier<Object> call) {
        return Check.answer(call);
    }

    private static Object call(PetitionBoard board, int kind, int a, int b, int c, int d) {
        switch (kind) {
            case 0: return board.addStone(a, b);
            case 1: return board.addOfficer(a);
            case 2: return board.stoneCount();
            case 3: return board.cellOf(a);
            case 4: return board.weightOf(a);
            case 5: return board.stoneIn(a);
            case 6: return board.officerCount();
            case 7: return board.rankOf(a);
            case 8: return board.petitionsOf(a);
            case 9: return board.file(a, b, c, d);
            case 10: return board.vote(a, b, c % 2 == 0);
            case 11: return board.cite(a, b);
            case 12: return board.veto(a, b);
            case 13: return board.withdraw(a);
            case 14: return board.pendingCount();
            case 15: return board.petitionAt(a);
            case 16: return board.positionOf(a);
            case 17: return board.stoneOf(a);
            case 18: return board.targetOf(a);
            case 19: return board.votesFor(a);
            case 20: return board.votesAgainst(a);
            case 21: return board.wouldBeGranted(a);
            case 22: return board.setQuorum(a);
            case 23: return board.decide();
            case 24: return board.quorum();
            case 25: return board.rulingCount();
            case 26: return board.isGranted(a);
            case 27: return board.isCarriedOut(a);
            default: return callLater(board, kind, a, b);
        }
    }

    private static Object callLater(PetitionBoard board, int kind, int a, int b) {
        switch (kind) {
            case 28: return board.citationCount(a);
            case 29: return board.citation(a, b);
            case 30: return board.citedBy(a);
            case 31: return board.depth(a);
            case 32: return board.isBasedOn(a, b);
            case 33: return board.influence(a);
            case 34: return board.influenceByMarking(a);
            case 35: return board.rulingByInfluence(a);
            case 36: return board.filedCount();
            case 37: return board.vetoes();
            case 38: return board.withdrawals();
            case 39: return board.movedWeight();
            case 40: return board.meanVotes();
            case 41: return board.grantedShare();
            case 42: return board.feed((char) a);
            case 43: return board.execute();
            case 44: return board.faultPosition();
            case 45: return board.writePetition(a);
            case 46: return board.writeRow(a);
            case 47: return board.lineCharacter(a);
            case 48: return board.denial();
            case 49: return board.denialDetail();
            case 50: return board.denialCause();
            case 51: return board.denialCauseDetail();
            case 52: return board.undo();
            case 53: return board.undoCount();
            case 54: return board.saveSnapshot();
            default: return board.restoreSnapshot();
        }
    }
}
