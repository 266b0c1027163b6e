import java.util.Arrays;
import java.util.Random;

/** Random runs of 512 calls: the rack answers each call as the model of the document does. */
public final class ModelTest {
    private static final int RUNS = 3000;
    private static final int CALLS = 512;
    private static final int[] EDGES = {
        Integer.MIN_VALUE, -2, -1, 0, 1, 63, 64, 65, 299, 300, 511, 512, Integer.MAX_VALUE};

    private final Random random;
    private final int keys;
    private final int mostCapacity;
    private final int usesInTen;
    private int shelves;

    private ModelTest(long seed) {
        random = new Random(seed);
        keys = new int[] {3, 6, 10, 20, 40, 150, 512}[random.nextInt(7)];
        mostCapacity = new int[] {1, 2, 3, 4, 6, 12, 64}[random.nextInt(7)];
        usesInTen = random.nextInt(8);
    }

    public static void main(String[] args) {
        Script script = new Script();
        for (int run = 0; run < RUNS; run++) {
            new ModelTest(run).compare(script, run);
        }
        script.end();
    }

    private void compare(Script script, int run) {
        Rack real = new RealRack();
        Rack model = new ModelRack();
        for (int i = 0; i < CALLS; i++) {
            String name = i < 3 ? "shelf" : nextName();
            int[] args = argsFor(name);
            String due = Rack.answer(model, name, args);
            String got = Rack.answer(real, name, args);
            if (name.equals("shelf") && !due.startsWith("throws")) {
                shelves++;
            }
            script.same("run " + run + ", call " + (i + 1) + ": " + name + Arrays.toString(args),
                    due, got);
            if (!due.equals(got)) {
                return;
            }
        }
    }

    private String nextName() {
        if (random.nextInt(10) < usesInTen) {
            return "use";
        }
        int n = random.nextInt(100);
        if (n < 30) {
            return "put";
        }
        if (n < 45) {
            return "get";
        }
        if (n < 52) {
            return "drop";
        }
        if (n < 72) {
            return "list";
        }
        if (n < 80) {
            return "told";
        }
        if (n == 80) {
            return random.nextInt(4) == 0 ? "clear" : "use";
        }
        String[] rest = {"has", "victim", "victim", "distance", "curve", "optimum", "count", "shelf"};
        return rest[n % rest.length];
    }

    private int[] argsFor(String name) {
        int[] args = switch (name) {
            case "shelf" -> shelfArgs();
            case "get", "drop", "has" -> new int[] {aShelf(), aKey()};
            case "put" -> new int[] {aShelf(), aKey(), random.nextInt()};
            case "victim" -> new int[] {aShelf()};
            case "list" -> new int[] {aShelf(), random.nextInt(4), random.nextInt(mostCapacity + 1)};
            case "told" -> new int[] {aShelf(), random.nextInt(8)};
            case "use" -> new int[] {aKey()};
            case "distance" -> new int[] {random.nextInt(300)};
            case "curve", "optimum" -> new int[] {1 + random.nextInt(mostCapacity)};
            case "count" -> new int[] {random.nextInt(3)};
            default -> new int[0];
        };
        if (args.length > 0 && random.nextInt(40) == 0) {
            args[random.nextInt(args.length)] = EDGES[random.nextInt(EDGES.length)];
        }
        return args;
    }

    private int[] shelfArgs() {
        int capacity = 1 + random.nextInt(mostCapacity);
        return new int[] {random.nextInt(6), capacity,
            1 + random.nextInt(capacity), 1 + random.nextInt(mostCapacity)};
    }

    private int aShelf() {
        return shelves == 0 ? 0 : random.nextInt(shelves);
    }

    // The lesser of two, so that some keys are used oftener than others.
    private int aKey() {
        return Math.min(random.nextInt(keys), random.nextInt(keys));
    }
}
