import java.util.ArrayList;
import java.util.List;

/** Numbers off a range: just beside it, far away, and such as would be in it if cut to fewer bits. */
final class Numbers {
    private Numbers() {}

    static List<Integer> off(int least, int most) {
        int[] candidates = {
            least - 1, most + 1, least - 2, most + 2, -least - 1, -most - 1, -most,
            least + (1 << 8), most + (1 << 8), most - (1 << 8),
            least + (1 << 16), most + (1 << 16), most - (1 << 16),
            least + (1 << 31), most + (1 << 31), Integer.MIN_VALUE, Integer.MAX_VALUE
        };
        List<Integer> found = new ArrayList<>();
        for (int number : candidates) {
            if ((number < least || number > most) && !found.contains(number)) {
                found.add(number);
            }
        }
        return found;
    }

    /** Only the two that are just beside it. */
    static int[] beside(int least, int most) {
        return new int[] {least - 1, most + 1};
    }
}
