import java.util.ArrayList;
import java.util.List;

/**
 * Runs rows such as "put(0, 1, 10) -> -1" on a new rack each run. Beside the calls of the face, a
 * row may say "all(shelf, list) -> [4, 5]": the whole list, without the free places at its end.
 */
final class Script {
    private int rows;
    private int wrong;

    void run(String title, String... lines) {
        Rack rack = new RealRack();
        for (int i = 0; i < lines.length; i++) {
            int arrow = lines[i].indexOf(" -> ");
            String call = lines[i].substring(0, arrow);
            same(title + ", row " + (i + 1) + ": " + call, lines[i].substring(arrow + 4),
                    answer(rack, call));
        }
    }

    void same(String what, String want, String got) {
        rows++;
        if (!want.equals(got)) {
            wrong++;
            System.out.println(what + " answered " + got + ", due is " + want);
        }
    }

    void end() {
        System.out.println(wrong == 0 ? "all " + rows + " answers are as due"
                : wrong + " of " + rows + " answers are not as due");
        if (wrong != 0) {
            System.exit(1);
        }
    }

    private static String answer(Rack rack, String call) {
        int open = call.indexOf('(');
        String name = call.substring(0, open);
        int[] args = numbers(call.substring(open + 1, call.length() - 1));
        return name.equals("all") ? wholeList(rack, args[0], args[1])
                : Rack.answer(rack, name, args);
    }

    private static int[] numbers(String text) {
        if (text.isBlank()) {
            return new int[0];
        }
        String[] parts = text.split(",");
        int[] numbers = new int[parts.length];
        for (int i = 0; i < parts.length; i++) {
            numbers[i] = Integer.parseInt(parts[i].trim());
        }
        return numbers;
    }

    private static String wholeList(Rack rack, int shelf, int list) {
        List<String> keys = new ArrayList<>();
        for (int i = 0; i < 64; i++) {
            keys.add(Rack.answer(rack, "list", shelf, list, i));
        }
        while (!keys.isEmpty() && keys.get(keys.size() - 1).equals("-1")) {
            keys.remove(keys.size() - 1);
        }
        return keys.toString();
    }
}
