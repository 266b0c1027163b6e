import java.util.ArrayList;
import java.util.List;

/**
 * Runs rows such as "put(0, 1, 10) -> -1" on a new rack each run. Beside the calls of the face, a
 * row may say "all(shelf, list) -> [4, 5]": the whole list, without the free places at its end;
 * and "# = 0 .. 63: put(0, #, 5) -> -1" is the row behind the colon for each of these numbers.
 */
final class Script {
    // Behind them the document leaves every answer free.
    private static final int MOST_CALLS = 512;

    private int rows;
    private int wrong;
    private int calls;

    void run(String title, String... lines) {
        Rack rack = new RealRack();
        calls = 0;
        for (int i = 0; i < lines.length; i++) {
            String at = title + ", row " + (i + 1) + ": ";
            if (lines[i].startsWith("# = ")) {
                runEach(rack, at, lines[i].substring(4));
            } else {
                runRow(rack, at, lines[i]);
            }
        }
        same(title + ": more calls than the document promises",
                "false", Boolean.toString(calls > MOST_CALLS));
    }

    void same(String what, String want, String got) {
        rows++;
        if (!want.equals(got)) {
            wrong++;
            System.out.println(what + " answered " + got + ", due is " + want);
        }
    }

    void end() {
        System.out.println(wrong == 0 ? "all " + rows + " answers are as due"
                : wrong + " of " + rows + " answers are not as due");
        if (wrong != 0) {
            System.exit(1);
        }
    }

    private void runEach(Rack rack, String at, String line) {
        int dots = line.indexOf(" .. ");
        int colon = line.indexOf(": ");
        int first = Integer.parseInt(line.substring(0, dots));
        int last = Integer.parseInt(line.substring(dots + 4, colon));
        for (int n = first; n <= last; n++) {
            runRow(rack, at, line.substring(colon + 2).replace("#", Integer.toString(n)));
        }
    }

    private void runRow(Rack rack, String at, String line) {
        int arrow = line.indexOf(" -> ");
        String call = line.substring(0, arrow);
        same(at + call, line.substring(arrow + 4), answer(rack, call));
    }

    private String answer(Rack rack, String call) {
        int[] args = Rack.argsOf(call);
        return Rack.nameOf(call).equals("all") ? wholeList(rack, args[0], args[1])
                : counted(rack, Rack.nameOf(call), args);
    }

    private String counted(Rack rack, String name, int... args) {
        calls++;
        return Rack.answer(rack, name, args);
    }

    /** Looks one place farther than any list of the shelf can go. */
    private String wholeList(Rack rack, int shelf, int list) {
        int capacity = Integer.parseInt(counted(rack, "told", shelf, 1));
        int ghosts = Integer.parseInt(counted(rack, "told", shelf, 3));
        List<String> keys = new ArrayList<>();
        for (int i = 0; i <= Math.max(capacity, ghosts); i++) {
            keys.add(counted(rack, "list", shelf, list, i));
        }
        while (!keys.isEmpty() && keys.get(keys.size() - 1).equals("-1")) {
            keys.remove(keys.size() - 1);
        }
        return keys.toString();
    }
}
