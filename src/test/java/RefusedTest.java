import java.util.ArrayList;
import java.util.List;

/**
 * "What a call that throws names first is tested first; it changes nothing, but get() counts a
 * miss." Each refused call is made on a rack of its own; behind it the rack tells the same as one
 * that was built by the same calls and refused none.
 */
public final class RefusedTest {
    private static final String ARGUMENT = "throws.IllegalArgumentException";
    private static final String STATE = "throws.IllegalStateException";
    private static final String ELEMENT = "throws.NoSuchElementException";
    private static final int MOST_CALLS = 512;
    private static final int[] NO_KEYS = {Integer.MIN_VALUE, -1, 512, 513, Integer.MAX_VALUE};
    private static final int[] NO_CAPACITIES = {Integer.MIN_VALUE, -1, 0, 65, Integer.MAX_VALUE};

    private static final Script SCRIPT = new Script();

    private final String title;
    private final List<String> building = new ArrayList<>();
    private int shelves;
    private int uses;

    private RefusedTest(String title) {
        this.title = title;
    }

    public static void main(String[] args) {
        new RefusedTest("a new object").refuseAll();
        mixed().refuseAll();
        mixed().refuseMisses();
        full().refuseAll();
        full().refuseFull();
        emptied().refuseAll();
        SCRIPT.end();
    }

    private void add(String call) {
        building.add(call);
        shelves += call.startsWith("shelf") ? 1 : 0;
        uses += call.startsWith("use") ? 1 : 0;
    }

    /** All six ways, with marks, counts, ghosts and a target. */
    private static RefusedTest mixed() {
        RefusedTest state = new RefusedTest("all six ways");
        for (int way = 0; way <= 5; way++) {
            state.add("shelf(" + way + ", 3, 1, 2)");
        }
        int[] keys = {1, 2, 3, 1, 2, 4, 3, 5, 1, 6, 4, 2, 2, 6};
        for (int key : keys) {
            state.add("use(" + key + ")");
        }
        for (int shelf = 0; shelf <= 5; shelf++) {
            state.add("put(" + shelf + ", 6, -1)");
        }
        return state;
    }

    private static RefusedTest full() {
        RefusedTest state = new RefusedTest("eight shelves and a full row");
        for (int way = 0; way <= 7; way++) {
            state.add("shelf(" + way % 6 + ", 2, 2, 1)");
        }
        for (int i = 0; i < 300; i++) {
            state.add("use(" + i * i % 7 + ")");
        }
        return state;
    }

    private static RefusedTest emptied() {
        RefusedTest state = mixed();
        RefusedTest cleared = new RefusedTest("all six ways, their row cleared");
        state.building.forEach(cleared::add);
        cleared.add("clear()");
        cleared.uses = 0;
        return cleared;
    }

    private void refuseAll() {
        refuseShelves();
        int[] noShelves = {Integer.MIN_VALUE, -1, shelves, shelves + 1, 8, Integer.MAX_VALUE};
        for (int shelf : noShelves) {
            refuseEachCall(shelf, 0);
        }
        for (int shelf = 0; shelf < shelves; shelf++) {
            for (int key : NO_KEYS) {
                refuse("get(" + shelf + ", " + key + ")", ARGUMENT);
                refuse("put(" + shelf + ", " + key + ", 5)", ARGUMENT);
                refuse("drop(" + shelf + ", " + key + ")", ARGUMENT);
                refuse("has(" + shelf + ", " + key + ")", ARGUMENT);
            }
            refuseNumbers("told(" + shelf + ", #)", Integer.MIN_VALUE, -1, 8, Integer.MAX_VALUE);
            int lists = new int[] {1, 1, 1, 1, 3, 4}[shelf % 6];
            refuseNumbers("list(" + shelf + ", #, 0)",
                    Integer.MIN_VALUE, -1, lists, Integer.MAX_VALUE);
        }
        refuseNumbers("use(#)", NO_KEYS);
        refuseNumbers("distance(#)", Integer.MIN_VALUE, -1, uses, uses + 1, Integer.MAX_VALUE);
        refuseNumbers("curve(#)", NO_CAPACITIES);
        refuseNumbers("optimum(#)", NO_CAPACITIES);
        refuseNumbers("count(#)", Integer.MIN_VALUE, -1, 3, Integer.MAX_VALUE);
    }

    /** Also behind eight shelves: what is no such way or capacity is named first. */
    private void refuseShelves() {
        refuseNumbers("shelf(#, 3, 1, 1)", Integer.MIN_VALUE, -1, 6, Integer.MAX_VALUE);
        for (int way = 0; way <= 5; way++) {
            refuseNumbers("shelf(" + way + ", #, 1, 1)", NO_CAPACITIES);
        }
        refuseNumbers("shelf(4, 3, #, 1)", Integer.MIN_VALUE, -1, 0, 4, Integer.MAX_VALUE);
        refuseNumbers("shelf(4, 3, 1, #)", Integer.MIN_VALUE, -1, 0, 65, Integer.MAX_VALUE);
    }

    private void refuseEachCall(int shelf, int key) {
        refuse("get(" + shelf + ", " + key + ")", ARGUMENT);
        refuse("get(" + shelf + ", -1)", ARGUMENT);
        refuse("put(" + shelf + ", " + key + ", 5)", ARGUMENT);
        refuse("drop(" + shelf + ", " + key + ")", ARGUMENT);
        refuse("has(" + shelf + ", " + key + ")", ARGUMENT);
        refuse("victim(" + shelf + ")", ARGUMENT);
        refuse("list(" + shelf + ", 0, 0)", ARGUMENT);
        refuse("told(" + shelf + ", 0)", ARGUMENT);
    }

    private void refuseFull() {
        for (int way = 0; way <= 5; way++) {
            refuse("shelf(" + way + ", 3, 1, 1)", STATE);
        }
        // One that most shelves hold, one that none has seen.
        refuse("use(1)", STATE);
        refuse("use(511)", STATE);
    }

    private void refuseMisses() {
        Rack asked = built();
        for (int shelf = 0; shelf < shelves; shelf++) {
            for (int key = 0; key <= 9; key++) {
                String held = Rack.answerTo(asked, "has(" + shelf + ", " + key + ")");
                if (!held.equals("2")) {
                    refuseMiss(shelf, "get(" + shelf + ", " + key + ")");
                }
            }
        }
    }

    private void refuseMiss(int shelf, String call) {
        String told = "told(" + shelf + ", 5)";
        int before = Integer.parseInt(Rack.answerTo(built(), told));
        Rack rack = built();
        SCRIPT.same(title + ": " + call, ELEMENT, Rack.answerTo(rack, call));
        String due = snapshot(built()).replace(told + " = " + before + ";",
                told + " = " + (before + 1) + ";");
        SCRIPT.same(title + ": behind " + call, due, snapshot(rack));
    }

    private void refuseNumbers(String call, int... numbers) {
        for (int number : numbers) {
            refuse(call.replace("#", Integer.toString(number)), ARGUMENT);
        }
    }

    private void refuse(String call, String due) {
        Rack rack = built();
        SCRIPT.same(title + ": " + call, due, Rack.answerTo(rack, call));
        SCRIPT.same(title + ": behind " + call, snapshot(built()), snapshot(rack));
    }

    private Rack built() {
        Rack rack = new RealRack();
        building.forEach(call -> Rack.answerTo(rack, call));
        return rack;
    }

    /**
     * Every list and number of each shelf, and a part of the row's; then values, as far as the
     * 512 calls go: last, because to get them is to use their keys.
     */
    private String snapshot(Rack rack) {
        List<String> calls = new ArrayList<>();
        for (int what = 0; what <= 2; what++) {
            calls.add("count(" + what + ")");
        }
        for (int shelf = 0; shelf < shelves; shelf++) {
            for (int what = 0; what <= 7; what++) {
                calls.add("told(" + shelf + ", " + what + ")");
            }
            calls.add("victim(" + shelf + ")");
            for (int list = 0; list <= 3; list++) {
                for (int i = 0; i <= 2; i++) {
                    calls.add("list(" + shelf + ", " + list + ", " + i + ")");
                }
            }
        }
        for (int i = 0; i < Math.min(uses, 15); i++) {
            calls.add("distance(" + i + ")");
        }
        calls.addAll(List.of("curve(1)", "curve(3)", "optimum(1)", "optimum(3)"));
        int left = MOST_CALLS - building.size() - 1 - calls.size();
        for (int n = 0; n < Math.min(left, shelves * 8); n++) {
            calls.add("get(" + n / 8 + ", " + n % 8 + ")");
        }
        StringBuilder text = new StringBuilder();
        calls.forEach(call -> text.append(call).append(" = ")
                .append(Rack.answerTo(rack, call)).append("; "));
        SCRIPT.same(title + ": more calls than the document promises", "false",
                Boolean.toString(building.size() + 1 + calls.size() > MOST_CALLS));
        return text.toString();
    }
}
