import java.util.ArrayList;
import java.util.List;

/** What the edge tests share: each sentence of the document is a test of its own, and is told when it is broken. */
abstract class Checks {
    static final int NONE = Town.NONE;

    private static String sentence = "";
    private static int checks = 0;
    private static int sentences = 0;
    private static int wrong = 0;

    static void sentence(String words, Runnable test) {
        sentence = words;
        sentences++;
        int before = checks;
        try {
            test.run();
        } catch (RuntimeException | Error thrown) {
            tell("threw " + thrown);
        }
        if (checks == before) {
            tell("nothing was checked");
        }
    }

    static void due(String call, int got, int want) {
        checks++;
        if (got != want) {
            tell(call + " answered " + got + ", due is " + want);
        }
    }

    static void due(String call, boolean got, boolean want) {
        due(call, got ? 1 : 0, want ? 1 : 0);
    }

    private static void tell(String what) {
        wrong++;
        System.out.println("\"" + sentence + "\": " + what);
    }

    static void end() {
        System.out.println(wrong == 0 ? sentences + " sentences hold" : wrong + " answers are not as due");
        if (wrong != 0) {
            System.exit(1);
        }
    }

    /**
     * Numbers that are not in low .. high: those next to it on both sides, the ends of int, and those that would
     * look like one inside if a part of their bits or their sign were lost.
     */
    static int[] outside(int low, int high) {
        int[] candidates = {
            low - 1, low - 2, high + 1, high + 2, -low, -high, low + 256, high - 256, low + 65536, high - 65536,
            low + (1 << 30), low + Integer.MIN_VALUE, high + Integer.MIN_VALUE,
            Integer.MIN_VALUE, Integer.MIN_VALUE + 1, Integer.MAX_VALUE - 1, Integer.MAX_VALUE,
        };
        List<Integer> found = new ArrayList<>();
        for (int n : candidates) {
            if ((n < low || n > high) && !found.contains(n)) {
                found.add(n);
            }
        }
        return found.stream().mapToInt(Integer::intValue).toArray();
    }
}
