import java.util.ArrayList;
import java.util.Arrays;
import java.util.List;

/** Each change changes what its promise says, and nothing else: the lines that go and those that come. */
public final class ChangesEdgesTest {
    private static final Scene VARIED = new Scene(() -> Boards.varied());

    public static void main(String[] args) {
        theBoard();
        stonesOfficersAndQuorum();
        filing();
        votesAndCitations();
        allVotesStay();
        endsOfPetitions();
        decisions();
        textsUndoAndSnapshots();
        Check.end();
    }

    /** What the others start from. */
    private static void theBoard() {
        String[] due = {"stone 0: cell 24, weight 1", "stone 1: cell 1, weight 2", "stone 2: cell 2, weight 3",
            "stone 3: cell 3, weight 4", "stone 4: cell 4, weight 5", "stone 5: cell 5, weight 6",
            "stone 6: cell 6, weight 7", "stone 7: cell 7, weight 8", "stone 8: cell 8, weight 9",
            "officer 0: rank 5, petitions 1", "officer 1: rank 3, petitions 1", "officer 2: rank 7, petitions 1",
            "officer 3: rank 5, petitions 1", "officer 4: rank 9, petitions 1", "#9:7>23@4!9+1-2^1",
            "#6:6>5@2!0+3-0 would be granted", "#4:4>21@0!4+1-2^1^0", "#5:5>22@3!4+1-3^0^1^2",
            "#3:3>20@1!4+2-2^2 would be granted", "queue 9 6 4 5 3",
            "ruling 0: granted, carried out, cites, cited by 2, depth 0, influence 2",
            "ruling 1: not granted, cites 0, cited by 1, depth 1, influence 1",
            "ruling 2: granted, cites 1 0, cited by 0, depth 2, influence 0", "quorum 3", "filed 10", "vetoes 1",
            "withdrawals 1", "moved weight 1", "mean votes 3.4", "granted share 0.6666667"};
        Check.is("the varied board", Boards.lines(VARIED.make()), Arrays.asList(due));
    }

    /** The lines that go, with "-", and those that come, with "+", each in their order. */
    private static void is(String what, Scene scene, Scene.Call call, String... due) {
        List<String> before = Boards.lines(scene.make());
        PetitionBoard board = scene.make();
        call.on(board);
        List<String> after = Boards.lines(board);
        List<String> differences = new ArrayList<>();
        for (String line : before) {
            if (!after.contains(line)) {
                differences.add("-" + line);
            }
        }
        for (String line : after) {
            if (!before.contains(line)) {
                differences.add("+" + line);
            }
        }
        Check.is(what, differences, Arrays.asList(due));
    }

    private static void stonesOfficersAndQuorum() {
        is("2 a stone", VARIED, b -> b.addStone(10, 5), "+stone 9: cell 10, weight 5");
        is("2 a stone for the cell of a petition", VARIED, b -> b.addStone(20, 1), "+stone 9: cell 20, weight 1");
        is("3 an officer", VARIED, b -> b.addOfficer(6), "+officer 5: rank 6, petitions 0");
        is("24 the quorum", VARIED, b -> b.setQuorum(5), "-quorum 3", "+quorum 5");
    }

    private static void filing() {
        is("11 a petition", VARIED, b -> b.file(2, 8, 20, 4), "-officer 2: rank 7, petitions 1", "-queue 9 6 4 5 3",
                "-filed 10", "-mean votes 3.4", "+officer 2: rank 7, petitions 2", "+#10:8>20@2!4+0-0",
                "+queue 9 10 6 4 5 3", "+filed 11", "+mean votes 2.8333333333333335");
        is("11 the last of the queue", VARIED, b -> b.file(1, 0, 0, 3), "-officer 1: rank 3, petitions 1",
                "-queue 9 6 4 5 3", "-filed 10", "-mean votes 3.4", "+officer 1: rank 3, petitions 2",
                "+#10:0>0@1!3+0-0", "+queue 9 6 4 5 3 10", "+filed 11", "+mean votes 2.8333333333333335");
    }

    private static void votesAndCitations() {
        is("12 a vote for", VARIED, b -> b.vote(4, 4, true), "-#4:4>21@0!4+1-2^1^0", "-mean votes 3.4",
                "+#4:4>21@0!4+2-2^1^0", "+mean votes 3.6");
        is("12 a vote against", VARIED, b -> b.vote(4, 6, false), "-#6:6>5@2!0+3-0 would be granted",
                "-mean votes 3.4", "+#6:6>5@2!0+3-1 would be granted", "+mean votes 3.6");
        is("13 a ruling that is not granted", VARIED, b -> b.cite(6, 1), "-#6:6>5@2!0+3-0 would be granted",
                "+#6:6>5@2!0+3-0^1 would be granted");
        is("13 a ruling that is granted", VARIED.after(b -> b.vote(4, 4, true)), b -> b.cite(4, 2),
                "-#4:4>21@0!4+2-2^1^0", "+#4:4>21@0!4+2-2^1^0^2 would be granted");
    }

    /** Petitions 3 to 9, on each of which all five others have voted, and which cite. */
    private static PetitionBoard withAllVotes() {
        PetitionBoard board = Boards.withRulings(3);
        for (int i = 0; i < 7; i++) {
            int petition = board.file(i % 6, i + 1, 20, 5);
            for (int officer = 0; officer < 6; officer++) {
                if (officer != i % 6) {
                    board.vote(officer, petition, (officer + i) % 2 == 0);
                }
            }
            board.cite(petition, i % 3);
        }
        return board;
    }

    private static void allVotesStay() {
        Scene all = new Scene(() -> withAllVotes());
        is("11 the eighth petition", all, b -> b.file(5, 9, 20, 5), "-officer 5: rank 5, petitions 1",
                "-queue 3 4 5 6 7 8 9", "-filed 10", "-mean votes 5.0", "+officer 5: rank 5, petitions 2",
                "+#10:9>20@5!5+0-0", "+queue 3 4 5 6 7 8 9 10", "+filed 11", "+mean votes 4.375");
        is("13 a second citation", all, b -> b.cite(9, 1), "-#9:7>20@0!5+2-3^0",
                "+#9:7>20@0!5+2-3^0^1 would be granted");
        is("15 one of seven", all, b -> b.withdraw(6), "-officer 3: rank 5, petitions 1", "-#6:4>20@3!5+2-3^0",
                "-queue 3 4 5 6 7 8 9", "-withdrawals 0", "+officer 3: rank 5, petitions 0", "+queue 3 4 5 7 8 9",
                "+withdrawals 1");
        is("24 the quorum", all, b -> b.setQuorum(5), "-quorum 2", "+quorum 5");
        is("25 the first of seven", all, b -> b.decide(), "-officer 0: rank 5, petitions 2", "-#3:1>20@0!5+2-3^0",
                "-queue 3 4 5 6 7 8 9", "-ruling 0: granted, carried out, cites, cited by 0, depth 0, influence 0",
                "-granted share 1.0", "+officer 0: rank 5, petitions 1", "+queue 4 5 6 7 8 9",
                "+ruling 0: granted, carried out, cites, cited by 1, depth 0, influence 1",
                "+ruling 3: not granted, cites 0, cited by 0, depth 1, influence 0", "+granted share 0.75");
    }

    private static void endsOfPetitions() {
        is("14 a veto", VARIED, b -> b.veto(4, 5), "-officer 3: rank 5, petitions 1", "-#5:5>22@3!4+1-3^0^1^2",
                "-queue 9 6 4 5 3", "-vetoes 1", "-mean votes 3.4", "+officer 3: rank 5, petitions 0",
                "+queue 9 6 4 3", "+vetoes 2", "+mean votes 3.25");
        is("15 a withdrawal", VARIED, b -> b.withdraw(3), "-officer 1: rank 3, petitions 1",
                "-#3:3>20@1!4+2-2^2 would be granted", "-queue 9 6 4 5 3", "-withdrawals 1", "-mean votes 3.4",
                "+officer 1: rank 3, petitions 0", "+queue 9 6 4 5", "+withdrawals 2", "+mean votes 3.25");
    }

    private static void decisions() {
        is("25 not granted", VARIED, b -> b.decide(), "-officer 4: rank 9, petitions 1", "-#9:7>23@4!9+1-2^1",
                "-queue 9 6 4 5 3", "-ruling 0: granted, carried out, cites, cited by 2, depth 0, influence 2",
                "-ruling 1: not granted, cites 0, cited by 1, depth 1, influence 1", "-mean votes 3.4",
                "-granted share 0.6666667", "+officer 4: rank 9, petitions 0", "+queue 6 4 5 3",
                "+ruling 0: granted, carried out, cites, cited by 2, depth 0, influence 3",
                "+ruling 1: not granted, cites 0, cited by 2, depth 1, influence 2",
                "+ruling 3: not granted, cites 1, cited by 0, depth 2, influence 0", "+mean votes 3.5",
                "+granted share 0.5");
        Scene occupied = VARIED.after(b -> b.withdraw(9));
        is("25 granted, but not carried out", occupied, b -> b.decide(), "-officer 2: rank 7, petitions 1",
                "-#6:6>5@2!0+3-0 would be granted", "-queue 6 4 5 3", "-mean votes 3.5", "-granted share 0.6666667",
                "+officer 2: rank 7, petitions 0", "+queue 4 5 3",
                "+ruling 3: granted, cites, cited by 0, depth 0, influence 0", "+mean votes 3.6666666666666665",
                "+granted share 0.75");
        Scene last = occupied.after(b -> b.withdraw(6), b -> b.withdraw(4), b -> b.withdraw(5));
        is("25 granted and carried out", last, b -> b.decide(), "-stone 3: cell 3, weight 4",
                "-officer 1: rank 3, petitions 1", "-#3:3>20@1!4+2-2^2 would be granted", "-queue 3",
                "-ruling 0: granted, carried out, cites, cited by 2, depth 0, influence 2",
                "-ruling 1: not granted, cites 0, cited by 1, depth 1, influence 1",
                "-ruling 2: granted, cites 1 0, cited by 0, depth 2, influence 0", "-moved weight 1",
                "-mean votes 4.0", "-granted share 0.6666667", "+stone 3: cell 20, weight 4",
                "+officer 1: rank 3, petitions 0", "+queue",
                "+ruling 0: granted, carried out, cites, cited by 2, depth 0, influence 3",
                "+ruling 1: not granted, cites 0, cited by 1, depth 1, influence 2",
                "+ruling 2: granted, cites 1 0, cited by 1, depth 2, influence 1",
                "+ruling 3: granted, carried out, cites 2, cited by 0, depth 3, influence 0", "+moved weight 5",
                "+mean votes ArithmeticException", "+granted share 0.75");
    }

    private static void textsUndoAndSnapshots() {
        is("45 a text", VARIED, b -> Boards.execute(b, "quorum 4;withdraw 3;stone 10 5;no 4 6"),
                "-officer 1: rank 3, petitions 1", "-#6:6>5@2!0+3-0 would be granted",
                "-#3:3>20@1!4+2-2^2 would be granted", "-queue 9 6 4 5 3", "-quorum 3", "-withdrawals 1",
                "-mean votes 3.4", "+stone 9: cell 10, weight 5", "+officer 1: rank 3, petitions 0",
                "+#6:6>5@2!0+3-1 would be granted", "+queue 9 6 4 5", "+quorum 4", "+withdrawals 2",
                "+mean votes 3.5");
        Scene voted = VARIED.after(b -> b.vote(4, 4, true));
        is("54 a vote undone", voted, b -> b.undo(), "-#4:4>21@0!4+2-2^1^0", "-mean votes 3.6",
                "+#4:4>21@0!4+1-2^1^0", "+mean votes 3.4");
        is("54 a vote and the text before it undone", voted, b -> Boards.undo(b, 2), "-#9:7>23@4!9+1-2^1",
                "-#4:4>21@0!4+2-2^1^0", "-#5:5>22@3!4+1-3^0^1^2", "-quorum 3", "-mean votes 3.6",
                "+#9:7>23@4!9+1-2", "+#4:4>21@0!4+1-2^1^0", "+#5:5>22@3!4+1-3", "+quorum 2", "+mean votes 3.4");
        Scene saved = VARIED.after(b -> b.saveSnapshot(), b -> b.withdraw(3), b -> b.addStone(10, 5));
        is("57 a withdrawal and a stone before the snapshot", saved, b -> b.restoreSnapshot(),
                "-stone 9: cell 10, weight 5", "-officer 1: rank 3, petitions 0", "-queue 9 6 4 5", "-withdrawals 2",
                "-mean votes 3.25", "+officer 1: rank 3, petitions 1", "+#3:3>20@1!4+2-2^2 would be granted",
                "+queue 9 6 4 5 3", "+withdrawals 1", "+mean votes 3.4");
    }
}
