import java.util.ArrayList;
import java.util.List;

/** Values at the edges of ranges. */
final class Edges {
    private Edges() {
    }

    /** Each value of a range, so that a loop over them can hand them to calls. */
    static int[] within(int least, int greatest) {
        int[] values = new int[greatest - least + 1];
        for (int i = 0; i < values.length; i++) {
            values[i] = least + i;
        }
        return values;
    }

    /**
     * Values outside a range: those next to it, the least and the greatest int, and some that would be in it
     * if a program took only their last bits, or their amount. A range from 0 to -1 is empty.
     */
    static int[] beyond(int least, int greatest) {
        int[] candidates = {least - 1, greatest + 1, Integer.MIN_VALUE, Integer.MAX_VALUE, Integer.MIN_VALUE + least,
            Integer.MAX_VALUE - 1, -1 - greatest, least + 32, least + 64, least + 256, least - 256, least + 65536};
        List<Integer> values = new ArrayList<>();
        for (int candidate : candidates) {
            boolean isOutside = candidate < least || candidate > greatest;
            if (isOutside && !values.contains(candidate)) {
                values.add(candidate);
            }
        }
        int[] beyond = new int[values.size()];
        for (int i = 0; i < beyond.length; i++) {
            beyond[i] = values.get(i);
        }
        return beyond;
    }
}
