/** The grammar of the texts, promises 45 and 46: what matches, and where what does not match has its fault. */
public final class GrammarEdgesTest {
    private static final String EIGHT_DECIDES = "decide;decide;decide;decide;decide;decide;decide;decide";
    private static final String FIVE_STONES = "stone 5 1;stone 6 1;stone 7 1;stone 10 1;stone 11 1";
    /** Each command with each number of digits. */
    private static final String[] COMMANDS = {"stone 1 2", "stone 12 3", "officer 4", "quorum 5", "file 0 1 2 3",
        "file 0 1 23 4", "yes 1 2", "yes 1 23", "no 1 2", "no 1 23", "cite 1 2", "cite 12 3", "cite 1 23",
        "cite 12 34", "veto 1 2", "veto 1 23", "withdraw 1", "withdraw 12", "decide"};

    /** Characters that stand in no text: controls, signs, capitals, and digits and spaces of other scripts. */
    private static final int[] WRONG = {0, 8, 9, 10, 11, 12, 13, 31, '!', '+', ',', '-', '.', '/', ':', '<', '?',
        'D', 'N', 'Z', '_', '|', 127, 133, 160, 0xB2, 0x37E, 0x661, 0x669, 0x966, 0x2002, 0x2003, 0x2028, 0x202F,
        0x3000, 0xFF10, 0xFF19, 0xFF1B, 0xFEFF, 0xFFFF};

    public static void main(String[] args) {
        whatMatches();
        whatEndsTooEarly();
        whatHasAWrongCharacter();
        whatGoesOnTooLong();
        tooManyDigits();
        whatBeginsAText();
        otherWords();
        wrongSpaces();
        theFullBuffer();
        Check.end();
    }

    private static void fault(String text, int position) {
        PetitionBoard board = new PetitionBoard();
        Boards.feed(board, text);
        Check.unfit("45 \"" + text + "\"", () -> board.execute());
        Check.is("46 \"" + text + "\"", Check.answer(() -> board.faultPosition()), String.valueOf(position));
        Check.absent("50 \"" + text + "\" is not denied", () -> board.denial());
        Check.is("55 \"" + text + "\" is no change", board.undoCount(), 0);
    }

    private static void match(String text) {
        PetitionBoard board = new PetitionBoard();
        Boards.feed(board, text);
        String answer = Check.answer(() -> board.execute());
        Check.is("45 matches: \"" + text + "\"", answer.equals("IllegalArgumentException"), false);
        Check.absent("46 matches: \"" + text + "\"", () -> board.faultPosition());
    }

    /** "text: command { ";" command }" */
    private static void whatMatches() {
        for (String command : COMMANDS) {
            match(command);
            match("decide;" + command);
            match(command + ";decide");
            match(command + ";" + command + ";" + command);
        }
    }

    /** "or the length of the text if it ends too early" */
    private static void whatEndsTooEarly() {
        for (String command : COMMANDS) {
            for (int length = 0; length < command.length(); length++) {
                String part = command.substring(0, length);
                boolean isLast = length == command.length() - 1;
                if (isLast && isDigit(command, length) && isDigit(command, length - 1)) {
                    match(part);
                } else {
                    fault(part, length);
                    fault(part + ";", length);
                    fault("decide;" + part, 7 + length);
                }
            }
            fault(command + ";", command.length() + 1);
        }
    }

    private static boolean isDigit(String text, int index) {
        return text.charAt(index) >= '0' && text.charAt(index) <= '9';
    }

    /** "the index of the first character that cannot continue any such text" */
    private static void whatHasAWrongCharacter() {
        for (String command : COMMANDS) {
            for (int i = 0; i < command.length(); i++) {
                char right = command.charAt(i);
                for (int wrong : WRONG) {
                    fault(command.substring(0, i) + (char) wrong + command.substring(i + 1), i);
                }
                for (int wrong : new int[] {'~', right + 128, right + 256, right + 0x8000}) {
                    fault(command.substring(0, i) + (char) wrong + command.substring(i + 1), i);
                    fault("decide;" + command.substring(0, i) + (char) wrong, 7 + i);
                }
                if (right >= 'a' && i > 0) {
                    fault(command.substring(0, i) + (char) (right + 1) + command.substring(i + 1), i);
                    fault(command.substring(0, i) + (char) (right - 1) + command.substring(i + 1), i);
                    fault(command.substring(0, i) + Character.toUpperCase(right) + command.substring(i + 1), i);
                }
            }
        }
    }

    /** Behind a command there is nothing, or one ";" and a command. */
    private static void whatGoesOnTooLong() {
        for (String command : COMMANDS) {
            int length = command.length();
            for (char wrong : new char[] {' ', '~', 0, ':', ',', 'd'}) {
                fault(command + wrong, length);
                fault(command + wrong + "decide", length);
            }
            for (int wrong : WRONG) {
                fault(command + (char) wrong + "decide", length);
            }
            fault(command + " ;decide", length);
            fault(command + ";;decide", length + 1);
            fault(command + "; decide", length + 1);
        }
    }

    /** A digit is one; "number: one or two digits". */
    private static void tooManyDigits() {
        for (String command : new String[] {"stone 1 2", "officer 4", "quorum 5", "file 0 1 2 3", "decide", "yes 1 23",
            "no 1 23", "cite 1 23", "veto 1 23", "withdraw 12"}) {
            fault(command + "0", command.length());
        }
        fault("stone 123 1", 8);
        fault("stone 000 1", 8);
        fault("file 10 1 2 3", 6);
        fault("file 0 10 2 3", 8);
        fault("file 0 1 200 3", 11);
        fault("yes 10 1", 5);
        fault("no 10 1", 4);
        fault("cite 100 1", 7);
        fault("veto 10 1", 6);
    }

    /** Of all characters only the first letters of the commands begin a text. */
    private static void whatBeginsAText() {
        for (int character = 0; character < 600; character++) {
            boolean begins = "soqfyncvwd".indexOf((char) character) >= 0;
            fault(String.valueOf((char) character), begins ? 1 : 0);
        }
    }

    private static void otherWords() {
        fault("add 1", 0);
        fault("undo", 0);
        fault("Stone 1 2", 0);
        fault("vote 1 1", 1);
        fault("no1 1", 2);
        fault("not 1 1", 2);
        fault("yes1 1", 3);
        fault("decided", 6);
        fault("stones 1 2", 5);
        fault("withdrawn 1", 8);
    }

    /** "a space in a terminal is exactly one space" */
    private static void wrongSpaces() {
        fault(" decide", 0);
        fault("decide ", 6);
        fault("stone1 2", 5);
        fault("stone 12", 8);
        fault("stone  1 2", 6);
        fault("stone 1  2", 8);
        fault("stone\t1 2", 5);
        fault("stone 1\t2", 7);
        fault("stone 1" + (char) 160 + "2", 7);
        fault("file 01 2 3", 6);
        fault("file 0  1 2 3", 7);
        fault("file 0 1 2  3", 11);
        fault("cite  1 2", 5);
        fault("withdraw  1", 9);
    }

    /** The last characters that the buffer takes. */
    private static void theFullBuffer() {
        match(EIGHT_DECIDES);
        match(FIVE_STONES + ";quorum 3");
        fault(EIGHT_DECIDES + ";", 56);
        fault(EIGHT_DECIDES + ";dec", 59);
        fault(EIGHT_DECIDES + ";deci", 60);
        fault(EIGHT_DECIDES + ";no 1", 60);
        fault(EIGHT_DECIDES + ";decj", 59);
        fault(EIGHT_DECIDES + ";dfci", 57);
        fault(EIGHT_DECIDES + ";;eci", 56);
        fault(EIGHT_DECIDES + "xdeci", 55);
        fault(FIVE_STONES + ";quorum x", 59);
        fault(FIVE_STONES + ";quorum ;", 59);
        fault(FIVE_STONES + ";quorum;3", 58);
        fault(FIVE_STONES + " quorum 3", 51);
        fault(FIVE_STONES + ";quorum3;", 58);
        fault(FIVE_STONES + ";decide;;", 59);
        fault(FIVE_STONES + ";decide;d", 60);
    }
}
