import java.util.Arrays;

/** Promises 32 to 37: each sentence that names an edge. */
public final class PrecedentsEdgesTest {
    private static final Scene EMPTY = new Scene(() -> new PetitionBoard());
    private static final Scene BUSY = new Scene(() -> Boards.busy());
    /** Each ruling from the third on cites the three before it. */
    private static final Scene FULL = new Scene(() -> Boards.full());
    /** Sixteen rulings that cite none. */
    private static final Scene APART = new Scene(() -> Boards.withRulings(16));
    /** Each ruling but the first cites the one before it alone. */
    private static final Scene CHAIN = new Scene(() -> chain());
    /** Each ruling but the first cites the first one. */
    private static final Scene STAR = new Scene(() -> star());

    public static void main(String[] args) {
        rulingNumbers();
        noRulings();
        citedBy();
        depth();
        depthOfTheGreatest();
        isBasedOn();
        isBasedOnBoth();
        influence();
        pendingCitationsDoNotCount();
        ranks();
        ranksByInfluence();
        eachGraphOfFour();
        undone();
        Check.end();
    }

    private static PetitionBoard chain() {
        PetitionBoard board = Boards.withRulings(1);
        for (int i = 1; i < 16; i++) {
            Boards.rule(board, true, i - 1);
        }
        return board;
    }

    private static PetitionBoard star() {
        PetitionBoard board = Boards.withRulings(1);
        for (int i = 1; i < 16; i++) {
            Boards.rule(board, true, 0);
        }
        return board;
    }

    /** 32 to 36: "Throws IndexOutOfBoundsException if there is no such ruling". */
    private static void rulingNumbers() {
        for (int ruling : Edges.beyond(0, 15)) {
            outside("ruling " + ruling + " of sixteen", FULL, ruling);
        }
        for (int ruling : Edges.beyond(0, 2)) {
            outside("ruling " + ruling + " of three", BUSY, ruling);
        }
        for (int ruling : Edges.beyond(0, -1)) {
            outside("ruling " + ruling + " of none", EMPTY, ruling);
        }
        outside("ruling 15, undone", CHAIN.after(b -> b.undo()), 15);
    }

    private static void outside(String what, Scene scene, int ruling) {
        scene.outside("32 " + what, b -> b.citedBy(ruling));
        scene.outside("33 " + what, b -> b.depth(ruling));
        scene.outside("34 " + what, b -> b.isBasedOn(ruling, 0));
        scene.outside("34 other " + what, b -> b.isBasedOn(0, ruling));
        scene.outside("34 both " + what, b -> b.isBasedOn(ruling, ruling));
        scene.outside("35 " + what, b -> b.influence(ruling));
        scene.outside("36 " + what, b -> b.influenceByMarking(ruling));
    }

    private static void noRulings() {
        EMPTY.absent("37 no rulings", b -> b.rulingByInfluence(0));
        EMPTY.outside("34 no rulings", b -> b.isBasedOn(0, 0));
    }

    /** 32: "Returns the number of rulings that cite a ruling", from none to all later ones. */
    private static void citedBy() {
        for (int ruling : Edges.within(0, 15)) {
            APART.answers("32 cited by none: " + ruling, 0, b -> b.citedBy(ruling));
            CHAIN.answers("32 cited by the next: " + ruling, ruling < 15 ? 1 : 0, b -> b.citedBy(ruling));
            STAR.answers("32 cited by all later ones: " + ruling, ruling == 0 ? 15 : 0, b -> b.citedBy(ruling));
            FULL.answers("32 cited by the next three: " + ruling, Math.min(3, 15 - ruling), b -> b.citedBy(ruling));
        }
    }

    /** "The depth of a ruling is 0 if it cites no rulings", up to 15. */
    private static void depth() {
        for (int ruling : Edges.within(0, 15)) {
            APART.answers("33 cites none: " + ruling, 0, b -> b.depth(ruling));
            CHAIN.answers("33 cites the one before: " + ruling, ruling, b -> b.depth(ruling));
            STAR.answers("33 cites the first: " + ruling, ruling == 0 ? 0 : 1, b -> b.depth(ruling));
            FULL.answers("33 cites the three before: " + ruling, ruling, b -> b.depth(ruling));
        }
    }

    /** ".. and otherwise 1 plus the greatest depth of the rulings that it cites", wherever it stands. */
    private static void depthOfTheGreatest() {
        int[][] orders = {{3, 1, 0}, {1, 3, 0}, {1, 0, 3}};
        for (int[] order : orders) {
            PetitionBoard board = Boards.withRulings(2);
            Boards.rule(board, true, 1);
            Boards.rule(board, true, 2);
            Boards.rule(board, true, order);
            Check.is("33 the greatest among " + Arrays.toString(order), board.depth(4), 3);
            Check.is("33 the cited one", board.depth(3), 2);
        }
    }

    /** "A ruling is based on another one if it cites it, or if it cites a ruling that is based on it." */
    private static void isBasedOn() {
        for (int ruling : Edges.within(0, 15)) {
            for (int other : new int[] {0, 1, 7, 14, 15}) {
                String what = "34 " + ruling + " on " + other;
                APART.answers(what + " of none", false, b -> b.isBasedOn(ruling, other));
                CHAIN.answers(what + " in a chain", ruling > other, b -> b.isBasedOn(ruling, other));
                STAR.answers(what + " in a star", ruling > 0 && other == 0, b -> b.isBasedOn(ruling, other));
            }
            CHAIN.answers("34 " + ruling + " on itself", false, b -> b.isBasedOn(ruling, ruling));
        }
    }

    /** 34: "if there is no such ruling, for either". */
    private static void isBasedOnBoth() {
        for (int wrong : Edges.beyond(0, 15)) {
            CHAIN.outside("34 ruling " + wrong + " on the last", b -> b.isBasedOn(wrong, 15));
            CHAIN.outside("34 the last on " + wrong, b -> b.isBasedOn(15, wrong));
        }
    }

    /** 35, 36: "Returns the same number as influence", from none to fifteen. */
    private static void influence() {
        for (int ruling : Edges.within(0, 15)) {
            influence("none " + ruling, APART, ruling, 0);
            influence("chain " + ruling, CHAIN, ruling, 15 - ruling);
            influence("star " + ruling, STAR, ruling, ruling == 0 ? 15 : 0);
            influence("all " + ruling, FULL, ruling, 15 - ruling);
        }
    }

    private static void influence(String what, Scene scene, int ruling, int due) {
        scene.answers("35 " + what, due, b -> b.influence(ruling));
        scene.answers("36 " + what, due, b -> b.influenceByMarking(ruling));
    }

    /** A petition that cites a ruling is no ruling. */
    private static void pendingCitationsDoNotCount() {
        Scene scene = new Scene(() -> Boards.withRulings(2)).after(b -> b.file(0, 9, 20, 0), b -> b.cite(2, 1));
        scene.answers("32 a pending petition", 0, b -> b.citedBy(1));
        influence("a pending petition", scene, 1, 0);
        scene.answers("37 a pending petition", 0, b -> b.rulingByInfluence(0));
        Scene decided = scene.after(b -> b.vote(1, 2, false), b -> b.vote(2, 2, false), b -> b.decide());
        decided.answers("32 a ruling that is not granted", 1, b -> b.citedBy(1));
        influence("a ruling that is not granted", decided, 1, 1);
        decided.answers("37 a ruling that is not granted", 1, b -> b.rulingByInfluence(0));
        scene.after(b -> b.withdraw(2)).answers("32 a withdrawn petition", 0, b -> b.citedBy(1));
    }

    /** 37: "the rank, from 0"; "Throws NoSuchElementException if there is no such rank". */
    private static void ranks() {
        for (int rulings : Edges.within(0, 16)) {
            Scene scene = new Scene(() -> Boards.withRulings(rulings));
            for (int rank : Edges.beyond(0, rulings - 1)) {
                scene.absent("37 rank " + rank + " of " + rulings, b -> b.rulingByInfluence(rank));
            }
            // "for equal influence, the ruling with the smaller number comes first"
            for (int rank : Edges.within(0, rulings - 1)) {
                scene.answers("37 equal influence, rank " + rank, rank, b -> b.rulingByInfluence(rank));
            }
        }
    }

    /** 37: "in descending order". */
    private static void ranksByInfluence() {
        for (int rank : Edges.within(0, 15)) {
            CHAIN.answers("37 chain, rank " + rank, rank, b -> b.rulingByInfluence(rank));
            STAR.answers("37 star, rank " + rank, rank, b -> b.rulingByInfluence(rank));
        }
        // Ruling 8 cites 7, 9 cites 6, and so on until 15 cites 0; 12 to 15 also cite the one before: so there are
        // equal influences, and a later ruling that comes before earlier ones.
        PetitionBoard board = Boards.withRulings(8);
        for (int i = 8; i < 16; i++) {
            if (i < 12) {
                Boards.rule(board, true, 15 - i);
            } else {
                Boards.rule(board, true, 15 - i, i - 1);
            }
        }
        int[] influences = {1, 2, 3, 4, 5, 1, 1, 1, 0, 0, 0, 4, 3, 2, 1, 0};
        int[] due = {4, 3, 11, 2, 12, 1, 13, 0, 5, 6, 7, 14, 8, 9, 10, 15};
        for (int i = 0; i < 16; i++) {
            Check.is("35 ruling " + i, board.influence(i), influences[i]);
            Check.is("36 ruling " + i, board.influenceByMarking(i), influences[i]);
            Check.is("37 rank " + i, board.rulingByInfluence(i), due[i]);
        }
    }

    /** Four rulings that cite each other in each possible way. */
    private static void eachGraphOfFour() {
        for (int second = 0; second < 2; second++) {
            for (int third = 0; third < 4; third++) {
                for (int fourth = 0; fourth < 8; fourth++) {
                    graph(new int[] {0, second, third, fourth});
                }
            }
        }
    }

    /** Bit j of a ruling's set says that it cites ruling j. */
    private static void graph(int[] cited) {
        PetitionBoard board = Boards.withRulings(0);
        int[] bases = new int[4];
        int[] depths = new int[4];
        for (int i = 0; i < 4; i++) {
            int[] precedents = new int[Integer.bitCount(cited[i])];
            int count = 0;
            bases[i] = cited[i];
            for (int j = 0; j < i; j++) {
                if ((cited[i] >> j & 1) == 1) {
                    precedents[count++] = j;
                    bases[i] |= bases[j];
                    depths[i] = Math.max(depths[i], depths[j] + 1);
                }
            }
            Boards.rule(board, true, precedents);
        }
        String what = " of the rulings citing " + Arrays.toString(cited);
        for (int i = 0; i < 4; i++) {
            int citing = 0;
            int influence = 0;
            for (int j = 0; j < 4; j++) {
                citing += cited[j] >> i & 1;
                influence += bases[j] >> i & 1;
                Check.is("34 " + i + " on " + j + what, board.isBasedOn(i, j), (bases[i] >> j & 1) == 1);
            }
            Check.is("32 " + i + what, board.citedBy(i), citing);
            Check.is("33 " + i + what, board.depth(i), depths[i]);
            Check.is("35 " + i + what, board.influence(i), influence);
            Check.is("36 " + i + what, board.influenceByMarking(i), influence);
        }
    }

    /** What is undone is no ruling any more, and another one in its place has its own citations. */
    private static void undone() {
        Scene back = CHAIN.after(b -> b.undo());
        back.answers("32 undone", 0, b -> b.citedBy(14));
        influence("undone", back, 0, 14);
        back.absent("37 undone", b -> b.rulingByInfluence(15));
        Scene other = new Scene(() -> Boards.withRulings(2)).after(b -> Boards.rule(b, true, 1),
                b -> Boards.undo(b, 5), b -> Boards.rule(b, true));
        other.answers("33 in its place", 0, b -> b.depth(2));
        other.answers("34 in its place", false, b -> b.isBasedOn(2, 1));
        other.answers("32 in its place", 0, b -> b.citedBy(1));
    }
}
