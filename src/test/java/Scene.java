/**
 * A board that can be made again and again. A call is tried on a fresh one; then everything else that is to be
 * seen must be as it is on a board without the call. Each view has a board of its own, since nothing is
 * promised of a board after its 512th call.
 */
final class Scene {
    interface Maker {
        PetitionBoard make();
    }

    interface Call {
        Object on(PetitionBoard board);
    }

    private static final String[] NAMES = {"the output line", "the text", "the fault position", "the denial",
        "the undo count", "the snapshot's queue", "the rest of the snapshot", "what follows from the snapshot"};
    private static final int LINE = 0;
    private static final int TEXT = 1;
    private static final int FAULT = 2;
    private static final int DENIAL = 3;
    private static final int UNDO_COUNT = 4;
    private static final int SNAPSHOT = 5;
    /** The looks of Boards: one look at all would take too many calls. */
    private static final int PARTS = 3;
    // From here on, the parts after 0 undos, then the parts after 1 undo, and so on.
    private static final int PAST = SNAPSHOT + PARTS;
    private static final int MOST_UNDOS = 9;
    private static final int VIEWS = PAST + PARTS * (MOST_UNDOS + 1);
    /** The views of what no change touches. */
    private static final int[] KEPT = {LINE, TEXT, FAULT, DENIAL, SNAPSHOT, SNAPSHOT + 1, SNAPSHOT + 2};

    private final Maker maker;
    private String[] untouched;

    Scene(Maker maker) {
        this.maker = maker;
    }

    /** The same board after some more calls, none of which may be refused. */
    Scene after(Call... calls) {
        return then("met", calls);
    }

    /** The same board after some more calls, each of which must be refused. */
    Scene afterRefused(Call... calls) {
        return then("refused", calls);
    }

    private Scene then(String due, Call... calls) {
        String place = new Throwable().getStackTrace()[2].toString();
        return new Scene(() -> {
            PetitionBoard board = maker.make();
            for (int i = 0; i < calls.length; i++) {
                Check.is("call " + i + " on the way at " + place, fate(board, calls[i]), due);
            }
            return board;
        });
    }

    private static String fate(PetitionBoard board, Call call) {
        try {
            call.on(board);
            return "met";
        } catch (RuntimeException e) {
            return "refused";
        }
    }

    PetitionBoard make() {
        return maker.make();
    }

    void outside(String what, Call call) {
        refuses(what, "IndexOutOfBoundsException", untouched(), call);
    }

    void unfit(String what, Call call) {
        refuses(what, "IllegalArgumentException", untouched(), call);
    }

    void absent(String what, Call call) {
        refuses(what, "NoSuchElementException", untouched(), call);
    }

    /** For the questions about a fault position or a denial, while none is kept. */
    void nothingKept(String what, Call call) {
        keeps(what, "NoSuchElementException", untouched(), call);
        keepsLine(what, "NoSuchElementException", call);
    }

    /** For restoreSnapshot, while there is no snapshot. */
    void noSnapshot(String what, Call call) {
        keeps(what, "IllegalStateException", untouched(), call);
        marked().keepsMarks(what, "IllegalStateException", untouched()[DENIAL], call);
    }

    /** For the signs of the output line, while there is none. */
    void noLine(String what, Call call) {
        keeps(what, "IndexOutOfBoundsException", untouched(), call);
    }

    void illegalState(String what, Call call) {
        refuses(what, "IllegalStateException", untouched(), call);
    }

    void arithmetic(String what, Call call) {
        refuses(what, "ArithmeticException", untouched(), call);
    }

    void denied(String what, int number, int detail, Call call) {
        String[] due = untouched().clone();
        due[DENIAL] = number + " " + detail + " NoSuchElementException NoSuchElementException";
        refuses(what, "UnsupportedOperationException", due, call);
    }

    /** Needs an empty text buffer. */
    void textDenied(String text, int command, int cause, int causeDetail) {
        String[] due = untouched().clone();
        due[DENIAL] = "12 " + command + " " + cause + " " + causeDetail;
        refusesText(text, "UnsupportedOperationException", due);
    }

    /** Needs an empty text buffer. */
    void textFault(String text, int position) {
        String[] due = untouched().clone();
        due[FAULT] = String.valueOf(position);
        refusesText(text, "IllegalArgumentException", due);
    }

    /** A question: nothing changes at all. */
    void answers(String what, Object due, Call call) {
        keeps(what, String.valueOf(due), untouched(), call);
    }

    /** A question, whatever it answers. */
    void changesNothing(String what, Call call) {
        PetitionBoard board = maker.make();
        answers(what, Check.answer(() -> call.on(board)), call);
    }

    /** Nothing but the output line changes. */
    void writes(String what, String line, Call call) {
        String[] due = untouched().clone();
        due[LINE] = line;
        keeps(what, String.valueOf(line.length()), due, call);
    }

    /** One change: it can be undone, and what no change touches stays. */
    void changes(String what, Object due, Call call) {
        for (int view = LINE; view <= DENIAL; view++) {
            compare(what, view, call, String.valueOf(due), untouched()[view]);
        }
        int count = Math.min(8, Integer.parseInt(untouched()[UNDO_COUNT]) + 1);
        compare(what, UNDO_COUNT, call, String.valueOf(due), String.valueOf(count));
        for (int view = SNAPSHOT; view < PAST; view++) {
            compare(what, view, call, String.valueOf(due), untouched()[view]);
        }
        String changed = see(what, PAST, call, String.valueOf(due)) + see(what, PAST + 1, call, String.valueOf(due));
        Check.is(what + " is a change", changed.equals(untouched()[PAST] + untouched()[PAST + 1]), false);
        for (int undos = 0; undos < count; undos++) {
            int left = count - 1 - undos;
            comparePast(what, undos, left, call, String.valueOf(due));
        }
    }

    /** Two calls change the board in the same way, whatever they answer. */
    void alike(String what, Call call, Call other) {
        for (int part = 0; part < PARTS; part++) {
            PetitionBoard board = maker.make();
            call.on(board);
            PetitionBoard otherBoard = maker.make();
            other.on(otherBoard);
            Check.is(what, look(part, board), look(part, otherBoard));
        }
    }

    /** One undo more than without the call leads to the same. */
    private void comparePast(String what, int undos, int left, Call call, String due) {
        for (int part = 0; part < PARTS; part++) {
            PetitionBoard board = maker.make();
            Check.is(what, Check.answer(() -> call.on(board)), due);
            String answer = Boards.undo(board, undos + 1);
            Check.is(what + ", undo " + (undos + 1) + " answers", answer, String.valueOf(left));
            Check.is(what + ", undone " + (undos + 1) + " times", look(part, board), look(part, undone(undos)));
        }
    }

    private PetitionBoard undone(int times) {
        PetitionBoard board = maker.make();
        Boards.undo(board, times);
        return board;
    }

    /** Also with a line, a text, a fault position, a denial with a cause and a snapshot, which all must stay. */
    private void refuses(String what, String due, String[] dueViews, Call call) {
        keeps(what, due, dueViews, call);
        marked().after(b -> b.saveSnapshot()).keepsMarks(what, due, dueViews[DENIAL], call);
    }

    private Scene marked() {
        return new Scene(() -> {
            PetitionBoard board = maker.make();
            // A scene with a text of its own has no room for those that keep a fault position and a denial.
            if (Check.answer(() -> board.feed('q')).equals("1")) {
                Check.answer(() -> board.execute());
                Boards.feed(board, "quorum " + board.quorum());
                Check.answer(() -> board.execute());
                board.feed('q');
            }
            board.writeRow(2);
            return board;
        });
    }

    private void keepsMarks(String what, String due, String dueDenial, Call call) {
        boolean isDenied = due.equals("UnsupportedOperationException");
        for (int view : KEPT) {
            String dueView = view == DENIAL && isDenied ? dueDenial : view(view, make());
            compare(what + ", with all that is kept", view, call, due, dueView);
        }
    }

    private void refusesText(String text, String due, String[] dueViews) {
        String what = "45 \"" + text + "\"";
        keeps(what, due, dueViews, b -> Boards.execute(b, text));
        keepsLine(what, due, b -> Boards.execute(b, text));
    }

    private void keepsLine(String what, String due, Call call) {
        Scene written = after(b -> b.writeRow(2));
        written.compare(what + ", with a line", LINE, call, due, view(LINE, written.make()));
    }

    private void keeps(String what, String due, String[] dueViews, Call call) {
        for (int view = 0; view < VIEWS; view++) {
            compare(what, view, call, due, dueViews[view]);
        }
    }

    private void compare(String what, int view, Call call, String due, String dueView) {
        String name = view < PAST ? NAMES[view] : "what is left after " + (view - PAST) / PARTS + " undos";
        Check.is(what + ", then " + name, see(what, view, call, due), dueView);
    }

    private String see(String what, int view, Call call, String due) {
        PetitionBoard board = maker.make();
        Check.is(what, Check.answer(() -> call.on(board)), due);
        return view(view, board);
    }

    private String[] untouched() {
        if (untouched == null) {
            untouched = new String[VIEWS];
            for (int view = 0; view < VIEWS; view++) {
                untouched[view] = view(view, maker.make());
            }
        }
        return untouched;
    }

    private static String view(int view, PetitionBoard board) {
        switch (view) {
            case LINE:
                return Boards.line(board);
            case TEXT:
                return Boards.text(board);
            case FAULT:
                return Check.answer(() -> board.faultPosition());
            case DENIAL:
                return Boards.denial(board);
            case UNDO_COUNT:
                return String.valueOf(board.undoCount());
            case SNAPSHOT:
            case SNAPSHOT + 1:
            case SNAPSHOT + 2:
                return snapshot(view - SNAPSHOT, board);
            default:
                return Boards.undo(board, (view - PAST) / PARTS) + look((view - PAST) % PARTS, board);
        }
    }

    private static String snapshot(int part, PetitionBoard board) {
        String answer = Check.answer(() -> board.restoreSnapshot());
        // Without a snapshot the board stays as it is, which tells nothing of one.
        return answer.endsWith("Exception") ? answer : answer + look(part, board);
    }

    private static String look(int part, PetitionBoard board) {
        if (part == 0) {
            return Boards.lookAtQueue(board);
        }
        return part == 1 ? Boards.lookAtTheRest(board) : Boards.lookAtWhatFollows(board);
    }
}
