import java.util.ArrayDeque;
import java.util.ArrayList;
import java.util.Comparator;
import java.util.Deque;
import java.util.HashMap;
import java.util.HashSet;
import java.util.List;
import java.util.Map;
import java.util.NoSuchElementException;
import java.util.Set;
import java.util.function.Supplier;
import java.util.regex.Matcher;
import java.util.regex.Pattern;

/** The document's words once more, in the library's collections and far from the program's own rows. */
final class PlainBoard {
    private static final class Denied extends UnsupportedOperationException {
        private static final long serialVersionUID = 1L;
        final int number;
        final int detail;

        Denied(int number, int detail) {
            this.number = number;
            this.detail = detail;
        }
    }

    private record Stone(int cell, int weight) {
    }

    private record Petition(int number, int officer, int stone, int cell, int urgency,
            Map<Integer, Boolean> votes, List<Integer> cited) {
    }

    private record Ruling(boolean granted, boolean carriedOut, List<Integer> cited) {
    }

    private record State(List<Stone> stones, List<Integer> ranks, List<Petition> pending, List<Ruling> rulings,
            int quorum, int filed, int vetoes, int withdrawals, int moved) {
    }

    private static final Pattern TEXT = text();

    private List<Stone> stones = new ArrayList<>();
    private List<Integer> ranks = new ArrayList<>();
    private List<Petition> pending = new ArrayList<>();
    private List<Ruling> rulings = new ArrayList<>();
    private int quorum = 2;
    private int filed = 0;
    private int vetoes = 0;
    private int withdrawals = 0;
    private int moved = 0;
    private final Deque<State> undoable = new ArrayDeque<>();
    private State snapshot = null;
    private String text = "";
    private String line = "";
    private Integer fault = null;
    private int[] denial = null;

    private static Pattern text() {
        String digit = "[0-9]";
        String number = "[0-9][0-9]?";
        String command = String.join("|", "stone N D", "officer D", "quorum D", "file D D N D", "yes D N",
                "no D N", "cite N N", "veto D N", "withdraw N", "decide");
        command = "(?:" + command.replace("D", digit).replace("N", number) + ")";
        return Pattern.compile(command + "(?:;" + command + ")*");
    }

    private State save() {
        return new State(new ArrayList<>(stones), new ArrayList<>(ranks), new ArrayList<>(pending),
                new ArrayList<>(rulings), quorum, filed, vetoes, withdrawals, moved);
    }

    private void load(State state) {
        stones = new ArrayList<>(state.stones);
        ranks = new ArrayList<>(state.ranks);
        pending = new ArrayList<>(state.pending);
        rulings = new ArrayList<>(state.rulings);
        quorum = state.quorum;
        filed = state.filed;
        vetoes = state.vetoes;
        withdrawals = state.withdrawals;
        moved = state.moved;
    }

    private int change(Supplier<Integer> action) {
        State before = save();
        int answer;
        try {
            answer = action.get();
        } catch (Denied e) {
            denial = new int[] {e.number, e.detail};
            throw new UnsupportedOperationException();
        }
        undoable.addLast(before);
        if (undoable.size() > 8) {
            undoable.removeFirst();
        }
        return answer;
    }

    private static void inRange(int value, int least, int greatest, RuntimeException otherwise) {
        if (value < least || value > greatest) {
            throw otherwise;
        }
    }

    private void needStone(int stone) {
        inRange(stone, 0, stones.size() - 1, new IndexOutOfBoundsException());
    }

    private void needOfficer(int officer) {
        inRange(officer, 0, ranks.size() - 1, new IndexOutOfBoundsException());
    }

    private void needCell(int cell) {
        inRange(cell, 0, 24, new IndexOutOfBoundsException());
    }

    private Ruling needRuling(int ruling) {
        inRange(ruling, 0, rulings.size() - 1, new IndexOutOfBoundsException());
        return rulings.get(ruling);
    }

    private Petition needPetition(int number) {
        return pending.stream().filter(p -> p.number == number).findFirst()
                .orElseThrow(NoSuchElementException::new);
    }

    private int stoneAt(int cell) {
        for (Stone stone : stones) {
            if (stone.cell == cell) {
                return stones.indexOf(stone);
            }
        }
        return -1;
    }

    private List<Petition> queue() {
        List<Petition> queue = new ArrayList<>(pending);
        queue.sort(Comparator.comparingInt((Petition p) -> -ranks.get(p.officer))
                .thenComparingInt(p -> -p.urgency).thenComparingInt(p -> p.number));
        return queue;
    }

    private static long votes(Petition petition, boolean isFor) {
        return petition.votes.values().stream().filter(v -> v == isFor).count();
    }

    private boolean wins(Petition petition) {
        long granted = petition.cited.stream().filter(r -> rulings.get(r).granted).count();
        long refused = petition.cited.size() - granted;
        return votes(petition, true) + granted > votes(petition, false) + refused;
    }

    private Set<Integer> bases(int ruling) {
        Set<Integer> bases = new HashSet<>();
        for (int cited : rulings.get(ruling).cited) {
            bases.add(cited);
            bases.addAll(bases(cited));
        }
        return bases;
    }

    private int influenceOf(int ruling) {
        int influence = 0;
        for (int i = 0; i < rulings.size(); i++) {
            influence += bases(i).contains(ruling) ? 1 : 0;
        }
        return influence;
    }

    private int depthOf(int ruling) {
        int depth = 0;
        for (int cited : rulings.get(ruling).cited) {
            depth = Math.max(depth, 1 + depthOf(cited));
        }
        return depth;
    }

    private int addStone(int cell, int weight) {
        needCell(cell);
        inRange(weight, 1, 9, new IllegalArgumentException());
        if (stoneAt(cell) >= 0) {
            throw new Denied(2, stoneAt(cell));
        }
        if (stones.size() == 10) {
            throw new Denied(1, 10);
        }
        stones.add(new Stone(cell, weight));
        return stones.size() - 1;
    }

    private int addOfficer(int rank) {
        inRange(rank, 1, 9, new IllegalArgumentException());
        if (ranks.size() == 6) {
            throw new Denied(1, 6);
        }
        ranks.add(rank);
        return ranks.size() - 1;
    }

    private int file(int officer, int stone, int cell, int urgency) {
        needOfficer(officer);
        needStone(stone);
        needCell(cell);
        inRange(urgency, 0, 9, new IllegalArgumentException());
        for (Petition petition : pending) {
            if (petition.stone == stone) {
                throw new Denied(3, petition.number);
            }
        }
        if (stones.get(stone).cell == cell) {
            throw new Denied(4, cell);
        }
        if (pending.size() == 8) {
            throw new Denied(1, 8);
        }
        pending.add(new Petition(filed, officer, stone, cell, urgency, Map.of(), List.of()));
        return filed++;
    }

    private int vote(int officer, int number, boolean isFor) {
        needOfficer(officer);
        Petition old = needPetition(number);
        if (old.officer == officer) {
            throw new Denied(6, officer);
        }
        if (old.votes.containsKey(officer)) {
            throw new Denied(5, old.votes.get(officer) ? 1 : 0);
        }
        Map<Integer, Boolean> votes = new HashMap<>(old.votes);
        votes.put(officer, isFor);
        pending.remove(old);
        pending.add(new Petition(number, old.officer, old.stone, old.cell, old.urgency, votes, old.cited));
        return votes.size();
    }

    private int cite(int number, int ruling) {
        Petition old = needPetition(number);
        inRange(ruling, 0, rulings.size() - 1, new NoSuchElementException());
        if (old.cited.contains(ruling)) {
            throw new Denied(7, ruling);
        }
        if (old.cited.size() == 3) {
            throw new Denied(1, 3);
        }
        List<Integer> cited = new ArrayList<>(old.cited);
        cited.add(ruling);
        pending.remove(old);
        pending.add(new Petition(number, old.officer, old.stone, old.cell, old.urgency, old.votes, cited));
        return cited.size();
    }

    private int veto(int officer, int number) {
        needOfficer(officer);
        Petition petition = needPetition(number);
        int rank = ranks.get(petition.officer);
        if (ranks.get(officer) <= rank) {
            throw new Denied(8, rank);
        }
        pending.remove(petition);
        vetoes++;
        return pending.size();
    }

    private int withdraw(int number) {
        pending.remove(needPetition(number));
        withdrawals++;
        return pending.size();
    }

    private int setQuorum(int value) {
        inRange(value, 1, 5, new IllegalArgumentException());
        if (value == quorum) {
            throw new Denied(11, value);
        }
        int before = quorum;
        quorum = value;
        return before;
    }

    private int decide() {
        if (pending.isEmpty()) {
            throw new Denied(9, rulings.size());
        }
        Petition first = queue().get(0);
        if (first.votes.size() < quorum) {
            throw new Denied(10, first.votes.size());
        }
        if (rulings.size() == 16) {
            throw new Denied(1, 16);
        }
        boolean granted = wins(first);
        boolean carriedOut = granted && stoneAt(first.cell) < 0;
        if (carriedOut) {
            int weight = stones.get(first.stone).weight;
            stones.set(first.stone, new Stone(first.cell, weight));
            moved += weight;
        }
        pending.remove(first);
        rulings.add(new Ruling(granted, carriedOut, first.cited));
        return rulings.size() - 1;
    }

    private int run(String command) {
        String[] words = command.split(" ");
        int[] v = new int[4];
        for (int i = 1; i < words.length; i++) {
            v[i - 1] = Integer.parseInt(words[i]);
        }
        return switch (words[0]) {
            case "stone" -> addStone(v[0], v[1]);
            case "officer" -> addOfficer(v[0]);
            case "quorum" -> setQuorum(v[0]);
            case "file" -> file(v[0], v[1], v[2], v[3]);
            case "yes" -> vote(v[0], v[1], true);
            case "no" -> vote(v[0], v[1], false);
            case "cite" -> cite(v[0], v[1]);
            case "veto" -> veto(v[0], v[1]);
            case "withdraw" -> withdraw(v[0]);
            default -> decide();
        };
    }

    private static int faultOf(String text) {
        for (int i = 0; i < text.length(); i++) {
            Matcher matcher = TEXT.matcher(text.substring(0, i + 1));
            if (!matcher.matches() && !matcher.hitEnd()) {
                return i;
            }
        }
        return text.length();
    }

    private int execute() {
        String whole = text;
        text = "";
        if (!TEXT.matcher(whole).matches()) {
            fault = faultOf(whole);
            throw new IllegalArgumentException();
        }
        String[] commands = whole.split(";");
        State before = save();
        for (int i = 0; i < commands.length; i++) {
            int[] cause = null;
            try {
                run(commands[i]);
            } catch (Denied e) {
                cause = new int[] {12, i, e.number, e.detail};
            } catch (RuntimeException e) {
                cause = new int[] {12, i, 13, 0};
            }
            if (cause != null) {
                load(before);
                denial = cause;
                throw new UnsupportedOperationException();
            }
        }
        load(before);
        return change(() -> {
            for (String command : commands) {
                run(command);
            }
            return commands.length;
        });
    }

    private int writePetition(int number) {
        Petition p = needPetition(number);
        line = "#" + number + ":" + p.stone + ">" + p.cell + "@" + p.officer + "!" + p.urgency
                + "+" + votes(p, true) + "-" + votes(p, false);
        p.cited.forEach(r -> line += "^" + r);
        return line.length();
    }

    private int writeRow(int row) {
        inRange(row, 0, 4, new IndexOutOfBoundsException());
        line = "";
        for (int i = 0; i < 5; i++) {
            int stone = stoneAt(5 * row + i);
            line += stone < 0 ? "." : String.valueOf(stone);
        }
        return line.length();
    }

    private int denialPart(int part) {
        if (denial == null || part >= denial.length) {
            throw new NoSuchElementException();
        }
        return denial[part];
    }

    private int rulingByInfluence(int rank) {
        List<Integer> order = new ArrayList<>();
        for (int i = 0; i < rulings.size(); i++) {
            order.add(i);
        }
        order.sort(Comparator.comparingInt((Integer r) -> -influenceOf(r)).thenComparingInt(r -> r));
        inRange(rank, 0, order.size() - 1, new NoSuchElementException());
        return order.get(rank);
    }

    private int feed(char character) {
        if (text.length() == 60) {
            throw new IllegalStateException();
        }
        text += character;
        return text.length();
    }

    private int undo() {
        if (undoable.isEmpty()) {
            throw new IllegalStateException();
        }
        load(undoable.removeLast());
        return undoable.size();
    }

    private int restoreSnapshot() {
        if (snapshot == null) {
            throw new IllegalStateException();
        }
        load(snapshot);
        undoable.clear();
        return pending.size();
    }

    private double meanVotes() {
        if (pending.isEmpty()) {
            throw new ArithmeticException();
        }
        return (double) pending.stream().mapToInt(p -> p.votes.size()).sum() / (double) pending.size();
    }

    private float grantedShare() {
        if (rulings.isEmpty()) {
            throw new ArithmeticException();
        }
        return (float) rulings.stream().filter(r -> r.granted).count() / (float) rulings.size();
    }

    private static <T> T at(List<T> list, int index, RuntimeException otherwise) {
        inRange(index, 0, list.size() - 1, otherwise);
        return list.get(index);
    }

    /** The call number n in the order of the document's face. */
    Object call(int n, int a, int b, int c, int d) {
        IndexOutOfBoundsException outside = new IndexOutOfBoundsException();
        NoSuchElementException absent = new NoSuchElementException();
        switch (n) {
            case 0: return change(() -> addStone(a, b));
            case 1: return change(() -> addOfficer(a));
            case 2: return stones.size();
            case 3: return at(stones, a, outside).cell;
            case 4: return at(stones, a, outside).weight;
            case 5:
                needCell(a);
                if (stoneAt(a) < 0) {
                    throw absent;
                }
                return stoneAt(a);
            case 6: return ranks.size();
            case 7: return at(ranks, a, outside);
            case 8:
                needOfficer(a);
                return (int) pending.stream().filter(p -> p.officer == a).count();
            case 9: return change(() -> file(a, b, c, d));
            case 10: return change(() -> vote(a, b, c % 2 == 0));
            case 11: return change(() -> cite(a, b));
            case 12: return change(() -> veto(a, b));
            case 13: return change(() -> withdraw(a));
            case 14: return pending.size();
            case 15: return at(queue(), a, absent).number;
            case 16: return queue().indexOf(needPetition(a));
            case 17: return needPetition(a).stone;
            case 18: return needPetition(a).cell;
            case 19: return (int) votes(needPetition(a), true);
            case 20: return (int) votes(needPetition(a), false);
            case 21: return wins(needPetition(a));
            case 22: return change(() -> setQuorum(a));
            case 23: return change(() -> decide());
            case 24: return quorum;
            case 25: return rulings.size();
            case 26: return needRuling(a).granted;
            case 27: return needRuling(a).carriedOut;
            case 28: return needRuling(a).cited.size();
            case 29: return at(needRuling(a).cited, b, absent);
            case 30:
                needRuling(a);
                return (int) rulings.stream().filter(r -> r.cited.contains(a)).count();
            case 31:
                needRuling(a);
                return depthOf(a);
            case 32:
                needRuling(a);
                needRuling(b);
                return bases(a).contains(b);
            case 33:
            case 34:
                needRuling(a);
                return influenceOf(a);
            case 35: return rulingByInfluence(a);
            case 36: return filed;
            case 37: return vetoes;
            case 38: return withdrawals;
            case 39: return moved;
            case 40: return meanVotes();
            case 41: return grantedShare();
            case 42: return feed((char) a);
            case 43: return execute();
            case 44:
                if (fault == null) {
                    throw absent;
                }
                return fault;
            case 45: return writePetition(a);
            case 46: return writeRow(a);
            case 47:
                inRange(a, 0, line.length() - 1, outside);
                return line.charAt(a);
            case 48: return denialPart(0);
            case 49: return denialPart(1);
            case 50: return denialPart(2);
            case 51: return denialPart(3);
            case 52: return undo();
            case 53: return undoable.size();
            case 54:
                snapshot = save();
                return pending.size();
            default: return restoreSnapshot();
        }
    }
}
