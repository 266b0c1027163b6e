import java.util.ArrayDeque;
import java.util.ArrayList;
import java.util.HashSet;
import java.util.List;
import java.util.Queue;
import java.util.Set;

/**
 * Every state that a small shelf can come to, and in each of them every call on every key that it
 * holds or remembers and on one that it does not: the rack answers as the model does, tells the
 * same behind it, and lets the same keys go as strangers come until none is left that was there.
 *
 * <p>States that differ only in which keys they are about count as one.
 */
public final class EveryStateTest {
    private static final int MOST_CALLS = 512;
    // OFTEN alone has no end of states.
    private static final int MOST_COUNT = 4;
    private static final int[] LISTS_OF_WAY = {1, 1, 1, 1, 3, 4};
    private static final int FIRST_STRANGER = 400;

    private static final Script SCRIPT = new Script();

    private final int way;
    private final int capacity;
    private final int ghosts;
    private final String title;
    private int calls;

    private EveryStateTest(int way, int capacity, int a, int b) {
        this.way = way;
        this.capacity = capacity;
        ghosts = way == 4 ? b : way == 5 ? capacity : 0;
        title = "shelf(" + way + ", " + capacity + ", " + a + ", " + b + ")";
    }

    public static void main(String[] args) {
        int states = 0;
        for (int way : new int[] {0, 1, 2, 3, 5}) {
            for (int capacity = 1; capacity <= 4; capacity++) {
                states += new EveryStateTest(way, capacity, 0, 0).explore();
            }
        }
        for (int capacity = 1; capacity <= 4; capacity++) {
            for (int a = 1; a <= capacity; a++) {
                for (int b = 1; b <= 3; b++) {
                    states += new EveryStateTest(4, capacity, a, b).explore();
                }
            }
        }
        System.out.println(states + " states");
        SCRIPT.end();
    }

    private int explore() {
        Set<String> seen = new HashSet<>();
        Queue<List<String>> open = new ArrayDeque<>();
        open.add(List.of(title));
        seen.add(built(new ModelRack(), open.peek()).shape(0));
        while (!open.isEmpty()) {
            List<String> path = open.remove();
            for (String call : callsBehind(path)) {
                List<String> longer = new ArrayList<>(path);
                longer.add(call);
                ModelRack model = built(new ModelRack(), longer);
                if (model.greatestCount(0) <= maximum() && seen.add(model.shape(0))) {
                    open.add(longer);
                }
                compare(path, call);
            }
        }
        return seen.size();
    }

    private int maximum() {
        return way == 2 ? MOST_COUNT : Integer.MAX_VALUE;
    }

    private static <R extends Rack> R built(R rack, List<String> path) {
        path.forEach(call -> Rack.answerTo(rack, call));
        return rack;
    }

    /** Keys are named from 0 on, and none is left out but for a stranger, the least one. */
    private List<String> callsBehind(List<String> path) {
        ModelRack model = built(new ModelRack(), path);
        List<String> behind = new ArrayList<>();
        boolean strangerSeen = false;
        for (int key = 0; key <= capacity + ghosts; key++) {
            boolean stranger = Rack.answer(model, "has", 0, key).equals("0");
            if (!stranger || !strangerSeen) {
                behind.add("put(0, " + key + ", " + (1000 + path.size()) + ")");
                behind.add("get(0, " + key + ")");
                behind.add("drop(0, " + key + ")");
            }
            strangerSeen |= stranger;
        }
        return behind;
    }

    private void compare(List<String> path, String call) {
        Rack real = built(new RealRack(), path);
        Rack model = built(new ModelRack(), path);
        String at = path + ", " + call;
        calls = path.size();
        same(real, model, at, call);
        sameView(real, model, at);
        for (int i = 0; i <= capacity + ghosts; i++) {
            same(real, model, at + ", strangers", "put(0, " + (FIRST_STRANGER + i) + ", 5)");
            sameLists(real, model, at + ", strangers");
        }
        for (int key = 0; key <= capacity + ghosts; key++) {
            same(real, model, at + ", strangers", "put(0, " + key + ", 6)");
        }
        sameView(real, model, at + ", strangers");
        if (calls > MOST_CALLS) {
            SCRIPT.same(at + ": more calls than the document promises", "", "" + calls);
        }
    }

    private void sameView(Rack real, Rack model, String at) {
        for (int what = 0; what <= 7; what++) {
            same(real, model, at, "told(0, " + what + ")");
        }
        same(real, model, at, "victim(0)");
        for (int key = 0; key <= capacity + ghosts; key++) {
            same(real, model, at, "has(0, " + key + ")");
        }
        sameLists(real, model, at);
    }

    private void sameLists(Rack real, Rack model, String at) {
        for (int list = 0; list < LISTS_OF_WAY[way]; list++) {
            for (int i = 0; i <= Math.max(capacity, ghosts); i++) {
                same(real, model, at, "list(0, " + list + ", " + i + ")");
            }
        }
    }

    private void same(Rack real, Rack model, String at, String call) {
        calls++;
        SCRIPT.same(at + ": " + call, Rack.answerTo(model, call), Rack.answerTo(real, call));
    }
}
