import java.util.Random;

/** The optimum against every choice that a cache could make, on small rows. */
public final class OptimumTest {
    private static final int ROWS = 1500;
    private static final int KEYS = 6;

    public static void main(String[] args) {
        Script script = new Script();
        Random random = new Random(14);
        for (int n = 0; n < ROWS; n++) {
            int[] row = new int[random.nextInt(15)];
            PolicyRack rack = new PolicyRack();
            for (int i = 0; i < row.length; i++) {
                row[i] = random.nextInt(KEYS);
                rack.use(row[i]);
            }
            for (int capacity = 1; capacity <= KEYS; capacity++) {
                script.same("row " + n + ", optimum(" + capacity + ")",
                        Integer.toString(fewest(row, capacity)),
                        Integer.toString(rack.optimum(capacity)));
            }
        }
        script.end();
    }

    /** Goes from the last use to the first: the fewest misses from there, for each set held. */
    private static int fewest(int[] row, int capacity) {
        int sets = 1 << KEYS;
        int[] behind = new int[sets];
        for (int i = row.length - 1; i >= 0; i--) {
            int[] from = new int[sets];
            for (int held = 0; held < sets; held++) {
                from[held] = fewestFrom(held, 1 << row[i], capacity, behind);
            }
            behind = from;
        }
        return behind[0];
    }

    private static int fewestFrom(int held, int used, int capacity, int[] behind) {
        int miss = (held & used) == 0 ? 1 : 0;
        int best = Integer.MAX_VALUE;
        for (int kept = 0; kept < behind.length; kept++) {
            boolean allowed = (kept & ~(held | used)) == 0 && (kept & used) != 0
                    && Integer.bitCount(kept) <= capacity;
            if (allowed) {
                best = Math.min(best, miss + behind[kept]);
            }
        }
        return best;
    }
}
