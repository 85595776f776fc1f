import java.util.function.Supplier;

/** Compares answers with the due ones, prints what is wrong and ends a test with the exit code. */
final class Check {
    private static int checks = 0;
    private static int wrong = 0;

    private Check() {
    }

    static void is(String what, Object got, Object due) {
        checks++;
        if (!due.equals(got)) {
            wrong++;
            System.out.println(what + ": answered " + got + ", due is " + due);
        }
    }

    /** What a call answers: its value as a text, or the exact name of what it throws. */
    static String answer(Supplier<Object> call) {
        try {
            return String.valueOf(call.get());
        } catch (RuntimeException e) {
            return e.getClass().getSimpleName();
        }
    }

    static void outside(String what, Supplier<Object> call) {
        is(what, answer(call), "IndexOutOfBoundsException");
    }

    static void unfit(String what, Supplier<Object> call) {
        is(what, answer(call), "IllegalArgumentException");
    }

    static void absent(String what, Supplier<Object> call) {
        is(what, answer(call), "NoSuchElementException");
    }

    static void illegalState(String what, Supplier<Object> call) {
        is(what, answer(call), "IllegalStateException");
    }

    static void arithmetic(String what, Supplier<Object> call) {
        is(what, answer(call), "ArithmeticException");
    }

    static void denied(String what, PetitionBoard board, int number, int detail, Supplier<Object> call) {
        is(what, answer(call), "UnsupportedOperationException");
        is(what + ", denial", answer(() -> board.denial()), String.valueOf(number));
        is(what + ", detail", answer(() -> board.denialDetail()), String.valueOf(detail));
    }

    static void end() {
        System.out.println(checks + " checks, " + wrong + " wrong");
        if (wrong != 0 || checks == 0) {
            System.exit(1);
        }
    }
}
