import java.util.ArrayList;
import java.util.List;

/**
 * The section "Terms" of the document, sentence by sentence: each that names a boundary has a
 * script of its own, whose title says which, with answers worked out by hand.
 */
public final class TermsTest {
    private static final String ARGUMENT = " -> throws.IllegalArgumentException";
    private static final String STATE = " -> throws.IllegalStateException";
    private static final String ELEMENT = " -> throws.NoSuchElementException";
    private static final int WAYS = 6;

    private static final Script SCRIPT = new Script();

    public static void main(String[] args) {
        for (int way = 0; way < WAYS; way++) {
            String name = "way " + way + ": ";
            keysAndValues(name, way);
            capacities(name, way);
            getAndPut(name, way);
            dropped(name, way);
        }
        first();
        lately();
        often();
        clock();
        queuesLimits();
        queuesGoing();
        queuesGhosts();
        listsTarget();
        listsGhostsBefore();
        listsNewKeys();
        listsOf64();
        listsMakingRoom();
        row();
        distances();
        curves();
        optima();
        SCRIPT.end();
    }

    private static void keysAndValues(String name, int way) {
        SCRIPT.run(name + "KEYS are 0 .. 511",
                "shelf(" + way + ", 2, 1, 1) -> 0", "put(0, 0, 5) -> -1", "put(0, 511, 6) -> -1",
                "get(0, 0) -> 5", "get(0, 511) -> 6", "has(0, 0) -> 2", "has(0, 511) -> 2",
                "put(0, -1, 7)" + ARGUMENT, "put(0, 512, 7)" + ARGUMENT,
                "get(0, -1)" + ARGUMENT, "get(0, 512)" + ARGUMENT,
                "has(0, -1)" + ARGUMENT, "has(0, 512)" + ARGUMENT,
                "drop(0, -1)" + ARGUMENT, "drop(0, 512)" + ARGUMENT,
                "use(-1)" + ARGUMENT, "use(512)" + ARGUMENT,
                "use(0) -> 1", "use(511) -> 1", "drop(0, 0) -> 2", "drop(0, 511) -> 2",
                "has(0, 0) -> 0", "has(0, 511) -> 0", "told(0, 2) -> 0");
        SCRIPT.run(name + "VALUES are ints",
                "shelf(" + way + ", 4, 1, 1) -> 0", "put(0, 1, -2147483648) -> -1",
                "put(0, 2, 2147483647) -> -1", "put(0, 3, -1) -> -1", "put(0, 4, 0) -> -1",
                "get(0, 1) -> -2147483648", "get(0, 2) -> 2147483647", "get(0, 3) -> -1",
                "get(0, 4) -> 0", "put(0, 4, -2147483648) -> -1", "get(0, 4) -> -2147483648",
                "use(3) -> 1", "get(0, 3) -> -1", "told(0, 4) -> 7", "told(0, 5) -> 0");
    }

    private static void capacities(String name, int way) {
        SCRIPT.run(name + "a CAPACITY 1 .. 64",
                "shelf(" + way + ", 0, 1, 1)" + ARGUMENT, "shelf(" + way + ", 65, 1, 1)" + ARGUMENT,
                "shelf(" + way + ", -1, 1, 1)" + ARGUMENT,
                "shelf(" + way + ", -2147483648, 1, 1)" + ARGUMENT,
                "shelf(" + way + ", 2147483647, 1, 1)" + ARGUMENT, "count(0) -> 0",
                "shelf(" + way + ", 1, 1, 1) -> 0", "shelf(" + way + ", 64, 1, 1) -> 1",
                "told(0, 1) -> 1", "told(1, 1) -> 64", "count(0) -> 2");
        SCRIPT.run(name + "it holds at most as many as its capacity, 1",
                "shelf(" + way + ", 1, 1, 1) -> 0", "told(0, 2) -> 0", "victim(0) -> -1",
                "put(0, 1, 10) -> -1", "told(0, 2) -> 1", "victim(0) -> 1", "put(0, 2, 20) -> 1",
                "told(0, 2) -> 1", "get(0, 1)" + ELEMENT, "get(0, 2) -> 20", "put(0, 3, 30) -> 2",
                "told(0, 2) -> 1", "told(0, 6) -> 2");
        SCRIPT.run(name + "it holds at most as many as its capacity, 64",
                "shelf(" + way + ", 64, 64, 64) -> 0", "# = 0 .. 62: put(0, #, #) -> -1",
                "told(0, 2) -> 63", "victim(0) -> -1", "put(0, 63, 63) -> -1", "told(0, 2) -> 64",
                "victim(0) -> 0", "told(0, 6) -> 0", "put(0, 64, 64) -> 0", "told(0, 2) -> 64",
                "# = 1 .. 64: get(0, #) -> #", "get(0, 0)" + ELEMENT, "told(0, 6) -> 1",
                "told(0, 4) -> 64", "told(0, 5) -> 1");
    }

    private static void getAndPut(String name, int way) {
        SCRIPT.run(name + "otherwise a MISS, and nothing else happens",
                "shelf(" + way + ", 2, 1, 1) -> 0", "get(0, 1)" + ELEMENT, "has(0, 1) -> 0",
                "told(0, 2) -> 0", "told(0, 3) -> 0", "told(0, 5) -> 1", "told(0, 6) -> 0",
                "put(0, 1, 1) -> -1", "put(0, 2, 2) -> -1", "get(0, 3)" + ELEMENT,
                "has(0, 3) -> 0", "victim(0) -> 1", "told(0, 2) -> 2", "told(0, 3) -> 0",
                "told(0, 4) -> 0", "told(0, 5) -> 2", "told(0, 6) -> 0", "count(1) -> 0",
                "put(0, 3, 3) -> 1");
        SCRIPT.run(name + "PUT of a key that a full shelf holds: its value is replaced",
                "shelf(" + way + ", 2, 1, 1) -> 0", "put(0, 1, 10) -> -1", "put(0, 2, 20) -> -1",
                "put(0, 1, 11) -> -1", "put(0, 2, 21) -> -1", "told(0, 2) -> 2", "told(0, 6) -> 0",
                "told(0, 4) -> 0", "told(0, 5) -> 0", "get(0, 1) -> 11", "get(0, 2) -> 21");
        SCRIPT.run(name + "who went comes with its new value alone",
                "shelf(" + way + ", 1, 1, 1) -> 0", "put(0, 1, 10) -> -1", "put(0, 2, 20) -> 1",
                "get(0, 1)" + ELEMENT, "put(0, 1, 12) -> 2", "get(0, 1) -> 12");
    }

    private static void dropped(String name, int way) {
        SCRIPT.run(name + "DROP of a key that a full shelf holds: then it is not full",
                "shelf(" + way + ", 2, 1, 1) -> 0", "put(0, 1, 10) -> -1", "put(0, 2, 20) -> -1",
                "drop(0, 1) -> 2", "told(0, 2) -> 1", "victim(0) -> -1", "get(0, 1)" + ELEMENT,
                "put(0, 3, 30) -> -1", "told(0, 2) -> 2", "told(0, 6) -> 0", "get(0, 2) -> 20",
                "get(0, 3) -> 30");
        SCRIPT.run(name + "DROP of the only key, and of none",
                "shelf(" + way + ", 1, 1, 1) -> 0", "drop(0, 1) -> 0", "put(0, 1, 10) -> -1",
                "drop(0, 2) -> 0", "drop(0, 1) -> 2", "drop(0, 1) -> 0", "told(0, 2) -> 0",
                "told(0, 3) -> 0", "list(0, 0, 0) -> -1", "put(0, 1, 11) -> -1", "get(0, 1) -> 11",
                "put(0, 2, 20) -> 1");
    }

    private static void first() {
        SCRIPT.run("FIRST: the one that came first goes, using changes nothing",
                "shelf(0, 3, 0, 0) -> 0", "# = 1 .. 3: put(0, #, #) -> -1", "get(0, 1) -> 1",
                "put(0, 1, 9) -> -1", "use(1) -> 1", "all(0, 0) -> [1, 2, 3]", "victim(0) -> 1",
                "put(0, 4, 4) -> 1", "all(0, 0) -> [2, 3, 4]", "put(0, 1, 1) -> 2",
                "all(0, 0) -> [3, 4, 1]");
        SCRIPT.run("FIRST: one that was dropped comes as the last",
                "shelf(0, 2, 0, 0) -> 0", "put(0, 1, 1) -> -1", "put(0, 2, 2) -> -1",
                "drop(0, 1) -> 2", "put(0, 1, 1) -> -1", "all(0, 0) -> [2, 1]",
                "put(0, 3, 3) -> 2");
    }

    private static void lately() {
        SCRIPT.run("LATELY: used, or came, longest ago",
                "shelf(1, 3, 0, 0) -> 0", "# = 1 .. 3: put(0, #, #) -> -1", "victim(0) -> 1",
                "get(0, 3) -> 3", "all(0, 0) -> [1, 2, 3]", "get(0, 1) -> 1",
                "all(0, 0) -> [2, 3, 1]", "put(0, 2, 9) -> -1", "all(0, 0) -> [3, 1, 2]",
                "use(1) -> 1", "all(0, 0) -> [3, 2, 1]", "put(0, 4, 4) -> 3",
                "all(0, 0) -> [2, 1, 4]");
    }

    private static void often() {
        SCRIPT.run("OFTEN: a COUNT, 1 when it comes, again 1 when it comes again",
                "shelf(2, 2, 0, 0) -> 0", "put(0, 1, 1) -> -1", "# = 1 .. 3: get(0, 1) -> 1",
                "put(0, 2, 2) -> -1", "# = 1 .. 4: get(0, 2) -> 2", "put(0, 3, 3) -> 1",
                "put(0, 1, 1) -> 3", "get(0, 1) -> 1", "all(0, 0) -> [1, 2]", "put(0, 3, 3) -> 1");
        SCRIPT.run("OFTEN: one more by each use, be it GET, PUT or USE",
                "shelf(2, 4, 0, 0) -> 0", "# = 1 .. 4: put(0, #, #) -> -1", "get(0, 3) -> 3",
                "put(0, 3, 9) -> -1", "use(3) -> 1", "get(0, 1) -> 1", "put(0, 1, 9) -> -1",
                "use(2) -> 1", "all(0, 0) -> [4, 2, 1, 3]", "has(0, 4) -> 2", "victim(0) -> 4");
        SCRIPT.run("OFTEN: of several with the least count the one used, or come, longest ago",
                "shelf(2, 3, 0, 0) -> 0", "# = 1 .. 3: put(0, #, #) -> -1", "victim(0) -> 1",
                "get(0, 2) -> 2", "get(0, 1) -> 1", "get(0, 3) -> 3", "victim(0) -> 2",
                "put(0, 4, 4) -> 2", "victim(0) -> 4", "get(0, 4) -> 4", "victim(0) -> 1",
                "all(0, 0) -> [1, 3, 4]");
    }

    private static void clock() {
        SCRIPT.run("CLOCK: a HAND, at first 0, stays as long as there is a free place",
                "shelf(3, 3, 0, 0) -> 0", "told(0, 7) -> 0", "# = 1 .. 3: put(0, #, #) -> -1",
                "told(0, 7) -> 0", "get(0, 1) -> 1", "told(0, 7) -> 0", "put(0, 4, 4) -> 2",
                "told(0, 7) -> 2", "drop(0, 1) -> 2", "put(0, 5, 5) -> -1", "told(0, 7) -> 2",
                "all(0, 0) -> [5, 4, 3]");
        SCRIPT.run("CLOCK: behind the last place the first",
                "shelf(3, 3, 0, 0) -> 0", "# = 1 .. 3: put(0, #, #) -> -1", "put(0, 4, 4) -> 1",
                "told(0, 7) -> 1", "put(0, 5, 5) -> 2", "told(0, 7) -> 2", "put(0, 6, 6) -> 3",
                "told(0, 7) -> 0", "put(0, 7, 7) -> 4", "told(0, 7) -> 1",
                "all(0, 0) -> [7, 5, 6]");
        SCRIPT.run("CLOCK: a mark at the last place is cleared, and the hand goes on to the first",
                "shelf(3, 3, 0, 0) -> 0", "# = 1 .. 3: put(0, #, #) -> -1", "put(0, 4, 4) -> 1",
                "put(0, 5, 5) -> 2", "get(0, 3) -> 3", "victim(0) -> 4", "put(0, 6, 6) -> 4",
                "told(0, 7) -> 1", "put(0, 7, 7) -> 5", "victim(0) -> 3", "put(0, 8, 8) -> 3",
                "told(0, 7) -> 0");
        SCRIPT.run("CLOCK: all have a mark: once round, and the marks are gone",
                "shelf(3, 3, 0, 0) -> 0", "# = 1 .. 3: put(0, #, #) -> -1", "put(0, 4, 4) -> 1",
                "get(0, 2) -> 2", "get(0, 3) -> 3", "get(0, 4) -> 4", "victim(0) -> 2",
                "told(0, 7) -> 1", "put(0, 5, 5) -> 2", "told(0, 7) -> 2", "put(0, 6, 6) -> 3",
                "told(0, 7) -> 0", "put(0, 7, 7) -> 4", "all(0, 0) -> [7, 5, 6]");
        SCRIPT.run("CLOCK: one place, with and without a mark",
                "shelf(3, 1, 0, 0) -> 0", "put(0, 1, 1) -> -1", "told(0, 7) -> 0",
                "put(0, 2, 2) -> 1", "told(0, 7) -> 0", "get(0, 2) -> 2", "victim(0) -> 2",
                "put(0, 3, 3) -> 2", "told(0, 7) -> 0", "list(0, 0, 0) -> 3",
                "list(0, 0, 1) -> -1");
        SCRIPT.run("CLOCK: 64 places, all with a mark but the last one",
                "shelf(3, 64, 0, 0) -> 0", "# = 0 .. 63: put(0, #, #) -> -1",
                "# = 0 .. 62: get(0, #) -> #", "victim(0) -> 63", "put(0, 64, 64) -> 63",
                "told(0, 7) -> 0", "list(0, 0, 63) -> 64", "put(0, 65, 65) -> 0",
                "told(0, 7) -> 1");
        SCRIPT.run("CLOCK: a key that comes takes the least free place",
                "shelf(3, 4, 0, 0) -> 0", "# = 1 .. 4: put(0, #, #) -> -1", "drop(0, 4) -> 2",
                "drop(0, 2) -> 2", "all(0, 0) -> [1, -1, 3]", "put(0, 5, 5) -> -1",
                "all(0, 0) -> [1, 5, 3]", "put(0, 6, 6) -> -1", "all(0, 0) -> [1, 5, 3, 6]",
                "put(0, 7, 7) -> 1");
        SCRIPT.run("CLOCK: it comes without a mark, to a free place and to one that was marked",
                "shelf(3, 2, 0, 0) -> 0", "put(0, 1, 1) -> -1", "put(0, 2, 2) -> -1",
                "victim(0) -> 1", "get(0, 1) -> 1", "drop(0, 1) -> 2", "put(0, 3, 3) -> -1",
                "victim(0) -> 3", "get(0, 3) -> 3", "get(0, 2) -> 2", "put(0, 4, 4) -> 3",
                "put(0, 5, 5) -> 2", "victim(0) -> 4");
        SCRIPT.run("CLOCK: PUT and USE of a key that it holds set the mark, HAS does not",
                "shelf(3, 3, 0, 0) -> 0", "# = 1 .. 3: put(0, #, #) -> -1", "has(0, 1) -> 2",
                "victim(0) -> 1", "put(0, 1, 9) -> -1", "victim(0) -> 2", "use(2) -> 1",
                "victim(0) -> 3");
    }

    private static void queuesLimits() {
        SCRIPT.run("QUEUES, with a (1 .. capacity)",
                "shelf(4, 1, 0, 1)" + ARGUMENT, "shelf(4, 1, 2, 1)" + ARGUMENT,
                "shelf(4, 64, 65, 1)" + ARGUMENT, "shelf(4, 64, 0, 1)" + ARGUMENT,
                "shelf(4, 5, -1, 1)" + ARGUMENT, "shelf(4, 5, 6, 1)" + ARGUMENT,
                "shelf(4, 5, -2147483648, 1)" + ARGUMENT, "shelf(4, 5, 2147483647, 1)" + ARGUMENT,
                "count(0) -> 0", "shelf(4, 1, 1, 1) -> 0", "shelf(4, 64, 64, 1) -> 1",
                "shelf(4, 64, 1, 1) -> 2", "shelf(4, 5, 5, 1) -> 3");
        SCRIPT.run("QUEUES, with b (1 .. 64)",
                "shelf(4, 5, 1, 0)" + ARGUMENT, "shelf(4, 5, 1, 65)" + ARGUMENT,
                "shelf(4, 5, 1, -1)" + ARGUMENT, "shelf(4, 5, 1, -2147483648)" + ARGUMENT,
                "shelf(4, 5, 1, 2147483647)" + ARGUMENT, "count(0) -> 0",
                "shelf(4, 5, 1, 1) -> 0", "shelf(4, 1, 1, 64) -> 1", "count(0) -> 2");
        SCRIPT.run("QUEUES: ghosts, at most b, 1",
                "shelf(4, 1, 1, 1) -> 0", "put(0, 1, 1) -> -1", "told(0, 3) -> 0",
                "put(0, 2, 2) -> 1", "told(0, 3) -> 1", "put(0, 3, 3) -> 2", "told(0, 3) -> 1",
                "has(0, 1) -> 0", "has(0, 2) -> 1", "list(0, 2, 0) -> 2", "list(0, 2, 1) -> -1");
        List<String> rows = new ArrayList<>(List.of(
                "shelf(4, 1, 1, 64) -> 0", "put(0, 0, 0) -> -1"));
        for (int i = 1; i <= 64; i++) {
            rows.add("put(0, " + i + ", 0) -> " + (i - 1));
        }
        rows.addAll(List.of("told(0, 3) -> 64", "has(0, 0) -> 1", "put(0, 65, 65) -> 64",
                "told(0, 3) -> 64", "has(0, 0) -> 0", "list(0, 2, 0) -> 1", "list(0, 2, 63) -> 64",
                "list(0, 2, 64) -> -1"));
        SCRIPT.run("QUEUES: ghosts, at most b, 64, of more the first one is forgotten",
                rows.toArray(new String[0]));
    }

    private static void queuesGoing() {
        SCRIPT.run("QUEUES: IN has more than a keys, just a, and MAIN has some",
                "shelf(4, 3, 2, 3) -> 0", "# = 1 .. 3: put(0, #, #) -> -1", "victim(0) -> 1",
                "put(0, 4, 4) -> 1", "put(0, 1, 1) -> 2", "all(0, 0) -> [3, 4]",
                "all(0, 1) -> [1]", "victim(0) -> 1", "put(0, 5, 5) -> 1",
                "all(0, 0) -> [3, 4, 5]", "all(0, 1) -> []", "all(0, 2) -> [2]",
                "victim(0) -> 3");
        SCRIPT.run("QUEUES: MAIN has none, and IN not more than a",
                "shelf(4, 2, 2, 2) -> 0", "put(0, 1, 1) -> -1", "put(0, 2, 2) -> -1",
                "victim(0) -> 1", "put(0, 3, 3) -> 1", "all(0, 0) -> [2, 3]", "all(0, 2) -> [1]",
                "put(0, 1, 1) -> 2", "all(0, 1) -> [1]", "victim(0) -> 1", "put(0, 4, 4) -> 1",
                "all(0, 0) -> [3, 4]", "all(0, 2) -> [2]");
        SCRIPT.run("QUEUES: IN has none",
                "shelf(4, 1, 1, 1) -> 0", "put(0, 1, 1) -> -1", "put(0, 2, 2) -> 1",
                "put(0, 1, 1) -> 2", "all(0, 0) -> []", "all(0, 1) -> [1]", "all(0, 2) -> [2]",
                "victim(0) -> 1", "put(0, 2, 2) -> 1", "all(0, 1) -> [2]", "all(0, 2) -> []",
                "put(0, 3, 3) -> 2", "all(0, 0) -> [3]", "all(0, 1) -> []", "told(0, 3) -> 0");
        SCRIPT.run("QUEUES: using a key of MAIN makes it the latest one there, of IN nothing",
                "shelf(4, 4, 1, 4) -> 0", "# = 1 .. 4: put(0, #, #) -> -1", "put(0, 5, 5) -> 1",
                "put(0, 1, 1) -> 2", "put(0, 2, 2) -> 3", "all(0, 0) -> [4, 5]",
                "all(0, 1) -> [1, 2]", "get(0, 4) -> 4", "put(0, 4, 9) -> -1", "use(4) -> 1",
                "all(0, 0) -> [4, 5]", "use(1) -> 1", "all(0, 1) -> [2, 1]", "get(0, 1) -> 1",
                "all(0, 1) -> [2, 1]", "put(0, 2, 9) -> -1", "all(0, 1) -> [1, 2]");
    }

    private static void queuesGhosts() {
        SCRIPT.run("QUEUES: a ghost comes to a shelf that is not full",
                "shelf(4, 2, 1, 2) -> 0", "put(0, 1, 1) -> -1", "put(0, 2, 2) -> -1",
                "put(0, 3, 3) -> 1", "drop(0, 2) -> 2", "put(0, 1, 11) -> -1",
                "all(0, 0) -> [3]", "all(0, 1) -> [1]", "all(0, 2) -> []", "get(0, 1) -> 11",
                "told(0, 6) -> 1");
        SCRIPT.run("QUEUES: b ghosts, and one of them comes: none is forgotten for who goes",
                "shelf(4, 1, 1, 2) -> 0", "put(0, 1, 1) -> -1", "put(0, 2, 2) -> 1",
                "put(0, 3, 3) -> 2", "all(0, 2) -> [1, 2]", "put(0, 2, 2) -> 3",
                "all(0, 2) -> [1, 3]", "all(0, 1) -> [2]", "told(0, 3) -> 2");
        SCRIPT.run("QUEUES: who goes from MAIN is no ghost",
                "shelf(4, 2, 1, 2) -> 0", "put(0, 1, 1) -> -1", "put(0, 2, 2) -> -1",
                "put(0, 3, 3) -> 1", "put(0, 1, 1) -> 2", "put(0, 4, 4) -> 1", "has(0, 1) -> 0",
                "all(0, 2) -> [2]", "all(0, 0) -> [3, 4]");
        SCRIPT.run("QUEUES: a ghost that was dropped comes to IN",
                "shelf(4, 2, 1, 2) -> 0", "put(0, 1, 1) -> -1", "put(0, 2, 2) -> -1",
                "put(0, 3, 3) -> 1", "drop(0, 1) -> 1", "put(0, 1, 1) -> 2",
                "all(0, 0) -> [3, 1]", "all(0, 1) -> []", "all(0, 2) -> [2]");
        SCRIPT.run("QUEUES: a key of MAIN that was dropped comes to IN",
                "shelf(4, 1, 1, 1) -> 0", "put(0, 1, 1) -> -1", "put(0, 2, 2) -> 1",
                "put(0, 1, 1) -> 2", "drop(0, 1) -> 2", "put(0, 1, 1) -> -1", "all(0, 0) -> [1]",
                "all(0, 1) -> []", "all(0, 2) -> [2]");
    }

    private static void listsTarget() {
        SCRIPT.run("LISTS: t at first 0, 1 is the most with c = 1, and DROP leaves it",
                "shelf(5, 1, 0, 0) -> 0", "told(0, 7) -> 0", "put(0, 1, 1) -> -1",
                "get(0, 1) -> 1", "put(0, 2, 2) -> 1", "put(0, 1, 1) -> 2", "told(0, 7) -> 0",
                "all(0, 2) -> [2]", "put(0, 2, 2) -> 1", "told(0, 7) -> 1", "all(0, 3) -> [1]",
                "drop(0, 2) -> 2", "told(0, 7) -> 1", "drop(0, 1) -> 1", "told(0, 7) -> 1",
                "told(0, 2) -> 0", "told(0, 3) -> 0", "put(0, 2, 2) -> -1", "told(0, 7) -> 1",
                "all(0, 0) -> [2]");
        // Held at the end: 8 10 once, 9 6 7 twice; ghosts 1 to 5 of TWICE.
        SCRIPT.run("LISTS (1): cut off, at least 1, and the lesser of c",
                "shelf(5, 5, 0, 0) -> 0", "# = 1 .. 5: put(0, #, #) -> -1",
                "# = 1 .. 4: get(0, #) -> #", "put(0, 6, 6) -> 5", "put(0, 7, 7) -> 6",
                "put(0, 8, 8) -> 7", "all(0, 2) -> [5, 6, 7]", "told(0, 7) -> 0",
                "put(0, 5, 5) -> 1", "told(0, 7) -> 1", "put(0, 9, 9) -> 2", "get(0, 9) -> 9",
                "put(0, 10, 10) -> 3", "all(0, 2) -> [6, 7]", "all(0, 3) -> [1, 2, 3]",
                "put(0, 6, 6) -> 4", "told(0, 7) -> 2", "all(0, 2) -> [7]",
                "all(0, 3) -> [1, 2, 3, 4]", "put(0, 7, 7) -> 5", "told(0, 7) -> 5",
                "all(0, 0) -> [8, 10]", "all(0, 1) -> [9, 6, 7]", "all(0, 2) -> []",
                "all(0, 3) -> [1, 2, 3, 4, 5]", "put(0, 1, 1) -> 9", "told(0, 7) -> 4",
                "all(0, 3) -> [2, 3, 4, 5, 9]", "put(0, 11, 11) -> 6", "told(0, 7) -> 4",
                "has(0, 2) -> 0", "all(0, 0) -> [8, 10, 11]", "all(0, 1) -> [7, 1]",
                "all(0, 3) -> [3, 4, 5, 9, 6]");
        SCRIPT.run("LISTS (2): cut off, at least 1, and the greater of 0",
                "shelf(5, 8, 0, 0) -> 0", "# = 1 .. 8: put(0, #, #) -> -1",
                "# = 1 .. 7: get(0, #) -> #", "put(0, 9, 9) -> 8", "put(0, 10, 10) -> 9",
                "put(0, 11, 11) -> 10", "put(0, 12, 12) -> 11", "put(0, 13, 13) -> 12",
                "put(0, 8, 8) -> 1", "put(0, 9, 9) -> 2", "told(0, 7) -> 2",
                "all(0, 2) -> [10, 11, 12]", "all(0, 3) -> [1, 2]", "put(0, 1, 1) -> 13",
                "told(0, 7) -> 1", "all(0, 2) -> [10, 11, 12, 13]", "all(0, 3) -> [2]",
                "put(0, 2, 2) -> 3", "told(0, 7) -> 0", "all(0, 3) -> [3]", "put(0, 3, 3) -> 4",
                "told(0, 7) -> 0", "all(0, 1) -> [5, 6, 7, 8, 9, 1, 2, 3]");
        SCRIPT.run("LISTS (2): ghosts of ONCE by ghosts of TWICE",
                "shelf(5, 8, 0, 0) -> 0", "# = 1 .. 8: put(0, #, #) -> -1",
                "# = 1 .. 7: get(0, #) -> #", "put(0, 9, 9) -> 8", "put(0, 10, 10) -> 9",
                "put(0, 11, 11) -> 10", "put(0, 12, 12) -> 11", "put(0, 13, 13) -> 12",
                "put(0, 8, 8) -> 1", "put(0, 9, 9) -> 2", "put(0, 10, 10) -> 3",
                "told(0, 7) -> 3", "drop(0, 1) -> 1", "drop(0, 2) -> 1", "all(0, 2) -> [11, 12]",
                "all(0, 3) -> [3]", "put(0, 3, 3) -> 13", "told(0, 7) -> 1",
                "all(0, 2) -> [11, 12, 13]", "all(0, 3) -> []");
    }

    private static void listsGhostsBefore() {
        SCRIPT.run("LISTS (1): the numbers of ghosts for t are those before",
                "shelf(5, 5, 0, 0) -> 0", "# = 1 .. 5: put(0, #, #) -> -1",
                "# = 1 .. 4: get(0, #) -> #", "put(0, 6, 6) -> 5", "put(0, 7, 7) -> 6",
                "put(0, 8, 8) -> 7", "put(0, 5, 5) -> 1", "put(0, 9, 9) -> 2",
                "all(0, 2) -> [6, 7]", "all(0, 3) -> [1, 2]", "told(0, 7) -> 1",
                "put(0, 6, 6) -> 3", "told(0, 7) -> 2", "all(0, 2) -> [7]",
                "all(0, 3) -> [1, 2, 3]");
        SCRIPT.run("LISTS: the last ghost of ONCE, and of TWICE",
                "shelf(5, 2, 0, 0) -> 0", "put(0, 1, 1) -> -1", "put(0, 2, 2) -> -1",
                "get(0, 1) -> 1", "put(0, 3, 3) -> 2", "all(0, 2) -> [2]", "put(0, 2, 2) -> 1",
                "told(0, 7) -> 1", "all(0, 2) -> []", "all(0, 3) -> [1]", "all(0, 0) -> [3]",
                "all(0, 1) -> [2]", "put(0, 1, 1) -> 3", "told(0, 7) -> 0", "all(0, 2) -> [3]",
                "all(0, 3) -> []", "all(0, 1) -> [2, 1]");
    }

    private static void listsNewKeys() {
        SCRIPT.run("LISTS (3): ONCE and its ghosts are c, ONCE has less: a ghost is forgotten",
                "shelf(5, 2, 0, 0) -> 0", "put(0, 1, 1) -> -1", "put(0, 2, 2) -> -1",
                "get(0, 1) -> 1", "put(0, 3, 3) -> 2", "all(0, 2) -> [2]", "put(0, 4, 4) -> 3",
                "has(0, 2) -> 0", "all(0, 2) -> [3]", "all(0, 0) -> [4]", "all(0, 1) -> [1]",
                "told(0, 3) -> 1", "told(0, 6) -> 2");
        SCRIPT.run("LISTS (3): the same in a shelf that is not full",
                "shelf(5, 2, 0, 0) -> 0", "put(0, 1, 1) -> -1", "put(0, 2, 2) -> -1",
                "get(0, 1) -> 1", "put(0, 3, 3) -> 2", "drop(0, 1) -> 2", "victim(0) -> -1",
                "put(0, 4, 4) -> -1", "has(0, 2) -> 0", "all(0, 0) -> [3, 4]",
                "told(0, 3) -> 0", "told(0, 6) -> 1");
        SCRIPT.run("LISTS (3): ONCE is c: its first one goes, and is forgotten",
                "shelf(5, 3, 0, 0) -> 0", "# = 1 .. 3: put(0, #, #) -> -1", "victim(0) -> 1",
                "put(0, 4, 4) -> 1", "has(0, 1) -> 0", "told(0, 3) -> 0", "told(0, 6) -> 1",
                "all(0, 0) -> [2, 3, 4]", "put(0, 1, 1) -> 2", "told(0, 7) -> 0",
                "all(0, 0) -> [3, 4, 1]");
        SCRIPT.run("LISTS (3): ONCE and its ghosts are one less than c",
                "shelf(5, 3, 0, 0) -> 0", "# = 1 .. 3: put(0, #, #) -> -1", "get(0, 1) -> 1",
                "get(0, 2) -> 2", "put(0, 4, 4) -> 3", "all(0, 2) -> [3]", "put(0, 5, 5) -> 4",
                "all(0, 2) -> [3, 4]", "put(0, 6, 6) -> 5", "all(0, 2) -> [4, 5]",
                "has(0, 3) -> 0");
        SCRIPT.run("LISTS (3): all four are less than c, just c, 2 c less 1, and 2 c",
                "shelf(5, 2, 0, 0) -> 0", "put(0, 1, 1) -> -1", "get(0, 1) -> 1",
                "put(0, 2, 2) -> -1", "get(0, 2) -> 2", "put(0, 3, 3) -> 1", "all(0, 3) -> [1]",
                "get(0, 3) -> 3", "put(0, 4, 4) -> 2", "all(0, 3) -> [1, 2]", "get(0, 4) -> 4",
                "put(0, 5, 5) -> 3", "all(0, 3) -> [2, 3]", "has(0, 1) -> 0", "told(0, 3) -> 2",
                "all(0, 0) -> [5]", "all(0, 1) -> [4]");
    }

    private static void listsOf64() {
        SCRIPT.run("LISTS: c is 64, and there are 64 ghosts of ONCE",
                "shelf(5, 64, 0, 0) -> 0", "# = 0 .. 63: use(#) -> 0", "# = 0 .. 63: use(#) -> 1",
                "# = 64 .. 127: use(#) -> 0", "told(0, 2) -> 64", "told(0, 3) -> 64",
                "list(0, 0, 0) -> 127", "list(0, 2, 62) -> 126", "list(0, 2, 63) -> -1",
                "list(0, 3, 0) -> 0", "put(0, 128, 1) -> 127", "has(0, 64) -> 0", "has(0, 0) -> 1",
                "told(0, 3) -> 64", "put(0, 0, 1) -> 128", "told(0, 7) -> 0", "list(0, 0, 0) -> -1",
                "list(0, 1, 0) -> 1", "list(0, 1, 63) -> 0", "list(0, 1, 64) -> -1",
                "list(0, 2, 0) -> 65", "list(0, 2, 63) -> 128", "list(0, 2, 64) -> -1",
                "list(0, 3, 0) -> -1", "told(0, 3) -> 64", "put(0, 200, 1) -> 1",
                "has(0, 65) -> 0", "told(0, 3) -> 64");
        List<String> rows = new ArrayList<>(List.of("shelf(5, 64, 0, 0) -> 0",
                "# = 0 .. 63: use(#) -> 0", "# = 0 .. 63: use(#) -> 1"));
        for (int i = 0; i < 64; i++) {
            rows.add("put(0, " + (64 + i) + ", 7) -> " + i);
            rows.add("get(0, " + (64 + i) + ") -> 7");
        }
        rows.addAll(List.of("told(0, 2) -> 64", "told(0, 3) -> 64", "list(0, 3, 0) -> 0",
                "list(0, 3, 63) -> 63", "list(0, 3, 64) -> -1", "list(0, 1, 63) -> 127",
                "put(0, 128, 1) -> 64", "has(0, 0) -> 0", "has(0, 1) -> 1", "told(0, 3) -> 64",
                "list(0, 3, 63) -> 64", "list(0, 0, 0) -> 128"));
        SCRIPT.run("LISTS: c is 64, and there are 64 ghosts of TWICE",
                rows.toArray(new String[0]));
    }

    private static void listsMakingRoom() {
        SCRIPT.run("LISTS: making room, if it is full: a ghost comes to one that is not",
                "shelf(5, 2, 0, 0) -> 0", "put(0, 1, 1) -> -1", "put(0, 2, 2) -> -1",
                "get(0, 1) -> 1", "put(0, 3, 3) -> 2", "drop(0, 3) -> 2", "put(0, 2, 22) -> -1",
                "told(0, 7) -> 1", "all(0, 0) -> []", "all(0, 1) -> [1, 2]", "told(0, 3) -> 0",
                "get(0, 2) -> 22", "told(0, 6) -> 1", "put(0, 4, 4) -> 1", "drop(0, 4) -> 2",
                "put(0, 1, 1) -> -1", "told(0, 7) -> 0", "all(0, 1) -> [2, 1]", "told(0, 3) -> 0",
                "told(0, 6) -> 2");
        SCRIPT.run("LISTS: ONCE has more than t, and just t",
                "shelf(5, 3, 0, 0) -> 0", "# = 1 .. 3: put(0, #, #) -> -1", "get(0, 1) -> 1",
                "get(0, 2) -> 2", "victim(0) -> 3", "put(0, 4, 4) -> 3", "put(0, 3, 3) -> 1",
                "told(0, 7) -> 1", "all(0, 0) -> [4]", "victim(0) -> 2", "put(0, 5, 5) -> 2",
                "all(0, 0) -> [4, 5]", "victim(0) -> 4");
        SCRIPT.run("LISTS: ONCE has just t, in (2)",
                "shelf(5, 4, 0, 0) -> 0", "# = 1 .. 4: put(0, #, #) -> -1",
                "# = 1 .. 3: get(0, #) -> #", "put(0, 5, 5) -> 4", "put(0, 6, 6) -> 5",
                "put(0, 4, 4) -> 1", "put(0, 5, 5) -> 2", "told(0, 7) -> 2", "all(0, 0) -> [6]",
                "put(0, 2, 2) -> 6", "told(0, 7) -> 1", "all(0, 0) -> []", "all(0, 2) -> [6]",
                "all(0, 1) -> [3, 4, 5, 2]");
        SCRIPT.run("LISTS: ONCE has less than t, in (2)",
                "shelf(5, 4, 0, 0) -> 0", "# = 1 .. 4: put(0, #, #) -> -1",
                "# = 1 .. 3: get(0, #) -> #", "put(0, 5, 5) -> 4", "put(0, 6, 6) -> 5",
                "put(0, 7, 7) -> 6", "put(0, 4, 4) -> 1", "put(0, 5, 5) -> 2", "put(0, 6, 6) -> 3",
                "told(0, 7) -> 4", "all(0, 0) -> [7]", "put(0, 1, 1) -> 4",
                "told(0, 7) -> 3", "all(0, 0) -> [7]", "all(0, 3) -> [2, 3, 4]",
                "all(0, 1) -> [5, 6, 1]");
        SCRIPT.run("LISTS: ONCE has none, and t is 0, in (2)",
                "shelf(5, 1, 0, 0) -> 0", "put(0, 1, 1) -> -1", "get(0, 1) -> 1",
                "put(0, 2, 2) -> 1", "get(0, 2) -> 2", "all(0, 0) -> []", "put(0, 1, 1) -> 2",
                "told(0, 7) -> 0", "all(0, 1) -> [1]", "all(0, 2) -> []", "all(0, 3) -> [2]");
        SCRIPT.run("LISTS: TWICE has none, so ONCE gives way",
                "shelf(5, 2, 0, 0) -> 0", "put(0, 1, 1) -> -1", "get(0, 1) -> 1",
                "put(0, 2, 2) -> -1", "get(0, 2) -> 2", "put(0, 3, 3) -> 1", "put(0, 4, 4) -> 3",
                "put(0, 3, 3) -> 2", "told(0, 7) -> 1", "drop(0, 3) -> 2", "put(0, 5, 5) -> -1",
                "all(0, 0) -> [4, 5]", "all(0, 1) -> []", "all(0, 3) -> [1, 2]",
                "put(0, 1, 1) -> 4", "told(0, 7) -> 0", "all(0, 0) -> [5]", "all(0, 1) -> [1]",
                "all(0, 2) -> [4]", "all(0, 3) -> [2]");
        SCRIPT.run("LISTS: using makes a key the latest of TWICE, from ONCE and in TWICE",
                "shelf(5, 3, 0, 0) -> 0", "# = 1 .. 3: put(0, #, #) -> -1", "put(0, 2, 9) -> -1",
                "all(0, 0) -> [1, 3]", "all(0, 1) -> [2]", "use(3) -> 1", "all(0, 0) -> [1]",
                "all(0, 1) -> [2, 3]", "get(0, 2) -> 9", "all(0, 1) -> [3, 2]", "get(0, 2) -> 9",
                "all(0, 1) -> [3, 2]", "told(0, 3) -> 0");
    }

    private static void row() {
        SCRIPT.run("THE ROW has at most 300 keys, PUT with how many uses it has now",
                "shelf(0, 64, 0, 0) -> 0", "# = 0 .. 298: use(#) -> 0", "count(1) -> 299",
                "get(0, 298) -> 299", "use(299) -> 0", "count(1) -> 300", "get(0, 299) -> 300",
                "use(299)" + STATE, "use(300)" + STATE, "count(1) -> 300", "count(2) -> 300",
                "has(0, 300) -> 0", "told(0, 4) -> 2", "told(0, 5) -> 300", "told(0, 6) -> 236",
                "clear() -> 300", "use(300) -> 0", "get(0, 300) -> 1", "count(1) -> 1");
        SCRIPT.run("a USE by no shelf, one shelf and a shelf made later",
                "use(1) -> 0", "shelf(0, 1, 0, 0) -> 0", "use(1) -> 0", "get(0, 1) -> 2",
                "shelf(1, 1, 0, 0) -> 1", "use(1) -> 1", "get(1, 1) -> 3", "get(0, 1) -> 2",
                "use(1) -> 3", "count(1) -> 4", "count(2) -> 1");
        SCRIPT.run("PUT, GET and DROP are no uses of the row",
                "shelf(0, 2, 0, 0) -> 0", "put(0, 1, 1) -> -1", "get(0, 1) -> 1",
                "drop(0, 1) -> 2", "count(1) -> 0", "count(2) -> 0", "distance(0)" + ARGUMENT);
    }

    private static void distances() {
        SCRIPT.run("the DISTANCE is 0 if there is no use between both, NONE if it is the first",
                "use(5) -> 0", "use(5) -> 0", "use(5) -> 0", "distance(0) -> -1",
                "distance(1) -> 0", "distance(2) -> 0");
        SCRIPT.run("the DISTANCE counts different keys, and from the last use alone",
                "use(0) -> 0", "use(511) -> 0", "use(511) -> 0", "use(0) -> 0", "use(7) -> 0",
                "use(511) -> 0", "use(0) -> 0", "distance(2) -> 0", "distance(3) -> 1",
                "distance(5) -> 2", "distance(6) -> 2");
        SCRIPT.run("the greatest DISTANCE",
                "# = 0 .. 298: use(#) -> 0", "use(0) -> 0", "distance(298) -> -1",
                "distance(299) -> 298", "distance(300)" + ARGUMENT);
    }

    private static void curves() {
        SCRIPT.run("the CURVE: a distance below the capacity, and just at it",
                "# = 1 .. 3: use(#) -> 0", "use(1) -> 0", "distance(3) -> 2", "curve(1) -> 4",
                "curve(2) -> 4", "curve(3) -> 3", "curve(4) -> 3");
        SCRIPT.run("the CURVE for 64: a distance of 63, and of 64",
                "# = 0 .. 63: use(#) -> 0", "use(0) -> 0", "distance(64) -> 63",
                "curve(64) -> 64", "curve(63) -> 65", "use(64) -> 0", "use(1) -> 0",
                "distance(66) -> 64", "curve(64) -> 66");
        SCRIPT.run("the CURVE of a row of one use, and of one key",
                "use(9) -> 0", "curve(1) -> 1", "curve(64) -> 1", "use(9) -> 0", "use(9) -> 0",
                "curve(1) -> 1", "curve(64) -> 1");
    }

    private static void optima() {
        SCRIPT.run("the OPTIMUM: it holds nothing at first, and each key as it is used",
                "use(1) -> 0", "optimum(1) -> 1", "use(2) -> 0", "use(1) -> 0", "optimum(1) -> 3",
                "optimum(2) -> 2", "use(1) -> 0", "optimum(1) -> 3", "use(2) -> 0",
                "optimum(1) -> 4", "optimum(2) -> 2");
        SCRIPT.run("the OPTIMUM for as many as there are keys, one less, and one more",
                "# = 1 .. 4: use(#) -> 0", "# = 1 .. 4: use(#) -> 0", "# = 1 .. 4: use(#) -> 0",
                "optimum(4) -> 4", "optimum(5) -> 4", "optimum(3) -> 6", "curve(3) -> 12",
                "curve(4) -> 4");
        SCRIPT.run("the OPTIMUM for 64 of 65 keys in turn, in a full row",
                "# = 0 .. 64: use(#) -> 0", "# = 0 .. 64: use(#) -> 0", "# = 0 .. 64: use(#) -> 0",
                "# = 0 .. 64: use(#) -> 0", "# = 0 .. 39: use(#) -> 0", "count(1) -> 300",
                "count(2) -> 65", "distance(299) -> 64", "curve(64) -> 300", "optimum(64) -> 68",
                "optimum(1) -> 300", "use(40)" + STATE);
    }
}
