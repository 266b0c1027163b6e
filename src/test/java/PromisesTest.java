/** One script or more for each promise of the document, with answers worked out by hand. */
public final class PromisesTest {
    private static final String ARGUMENT = " -> throws.IllegalArgumentException";
    private static final String STATE = " -> throws.IllegalStateException";
    private static final String ELEMENT = " -> throws.NoSuchElementException";

    private static final Script SCRIPT = new Script();

    public static void main(String[] args) {
        aNewObject();
        shelf();
        get();
        put();
        drop();
        has();
        victim();
        list();
        told();
        use();
        clear();
        distance();
        curve();
        optimum();
        count();
        often();
        clock();
        queues();
        lists();
        SCRIPT.end();
    }

    private static void aNewObject() {
        SCRIPT.run("promise 1: nothing there",
                "count(0) -> 0", "count(1) -> 0", "count(2) -> 0", "has(0, 0)" + ARGUMENT,
                "distance(0)" + ARGUMENT, "curve(1) -> 0", "optimum(64) -> 0", "clear() -> 0",
                "use(0) -> 0", "shelf(0, 1, 0, 0) -> 0", "told(0, 2) -> 0");
    }

    private static void shelf() {
        SCRIPT.run("promise 2: wrong arguments",
                "shelf(-1, 1, 1, 1)" + ARGUMENT, "shelf(6, 1, 1, 1)" + ARGUMENT,
                "shelf(0, 0, 1, 1)" + ARGUMENT, "shelf(5, 65, 1, 1)" + ARGUMENT,
                "shelf(4, 3, 0, 1)" + ARGUMENT, "shelf(4, 3, 4, 1)" + ARGUMENT,
                "shelf(4, 3, 1, 0)" + ARGUMENT, "shelf(4, 3, 1, 65)" + ARGUMENT,
                "count(0) -> 0",
                "shelf(4, 3, 3, 64) -> 0", "shelf(4, 64, 64, 1) -> 1", "count(0) -> 2");
        SCRIPT.run("promise 2: a and b count for QUEUES alone",
                "shelf(0, 1, -7, 900) -> 0", "shelf(1, 64, 0, 0) -> 1",
                "shelf(2, 2, 65, -1) -> 2", "shelf(3, 3, 4, 65) -> 3", "shelf(5, 5, 0, -9) -> 4");
        SCRIPT.run("promise 2: no more than eight",
                "shelf(0, 1, 0, 0) -> 0", "shelf(1, 2, 0, 0) -> 1", "shelf(2, 3, 0, 0) -> 2",
                "shelf(3, 4, 0, 0) -> 3", "shelf(4, 5, 1, 1) -> 4", "shelf(5, 6, 0, 0) -> 5",
                "shelf(0, 7, 0, 0) -> 6", "shelf(1, 64, 0, 0) -> 7",
                "shelf(0, 1, 0, 0)" + STATE, "shelf(6, 1, 0, 0)" + ARGUMENT,
                "shelf(0, 65, 0, 0)" + ARGUMENT, "shelf(4, 5, 6, 1)" + ARGUMENT,
                "count(0) -> 8", "told(7, 1) -> 64", "told(8, 1)" + ARGUMENT, "use(3) -> 0",
                "use(3) -> 255");
    }

    private static void get() {
        SCRIPT.run("promise 3: hits, misses and wrong arguments",
                "get(0, 1)" + ARGUMENT,
                "shelf(0, 2, 0, 0) -> 0", "put(0, 511, -2147483648) -> -1", "put(0, 0, 7) -> -1",
                "get(0, 511) -> -2147483648", "get(0, 0) -> 7",
                "told(0, 4) -> 2", "told(0, 5) -> 0",
                "get(0, 1)" + ELEMENT, "told(0, 4) -> 2", "told(0, 5) -> 1", "has(0, 1) -> 0",
                "get(0, -1)" + ARGUMENT, "get(0, 512)" + ARGUMENT, "get(1, 0)" + ARGUMENT,
                "get(-1, 0)" + ARGUMENT, "told(0, 4) -> 2", "told(0, 5) -> 1");
        SCRIPT.run("promise 3: a ghost is a miss and stays one",
                "shelf(5, 1, 0, 0) -> 0", "put(0, 1, 10) -> -1", "get(0, 1) -> 10",
                "put(0, 2, 20) -> 1", "has(0, 1) -> 1", "get(0, 1)" + ELEMENT,
                "has(0, 1) -> 1", "told(0, 5) -> 1");
        SCRIPT.run("promise 3: it is used",
                "shelf(1, 2, 0, 0) -> 0", "put(0, 1, 10) -> -1", "put(0, 2, 20) -> -1",
                "get(0, 1) -> 10", "put(0, 3, 30) -> 2", "all(0, 0) -> [1, 3]");
    }

    private static void put() {
        SCRIPT.run("promise 4: the key that goes",
                "put(0, 1, 1)" + ARGUMENT,
                "shelf(0, 2, 0, 0) -> 0", "put(0, 5, 50) -> -1", "put(0, 6, 60) -> -1",
                "put(0, 5, 51) -> -1", "get(0, 5) -> 51", "put(0, 7, 70) -> 5",
                "put(0, 0, 1) -> 6", "put(0, 9, 1) -> 7", "put(0, 10, 1) -> 0",
                "put(0, -1, 1)" + ARGUMENT, "put(0, 512, 1)" + ARGUMENT, "put(1, 5, 1)" + ARGUMENT,
                "put(-1, 5, 1)" + ARGUMENT, "all(0, 0) -> [9, 10]", "told(0, 6) -> 4");
        SCRIPT.run("promise 4: a held key is used, but that is no hit",
                "shelf(1, 2, 0, 0) -> 0", "put(0, 1, 1) -> -1", "put(0, 2, 2) -> -1",
                "put(0, 1, 3) -> -1", "told(0, 4) -> 0", "told(0, 5) -> 0", "put(0, 3, 3) -> 2",
                "get(0, 1) -> 3");
        SCRIPT.run("promise 4: who comes again has the new value",
                "shelf(0, 1, 0, 0) -> 0", "put(0, 1, 1) -> -1", "put(0, 2, 2) -> 1",
                "put(0, 1, 9) -> 2", "get(0, 1) -> 9");
    }

    private static void drop() {
        SCRIPT.run("promise 5: held, unknown, wrong",
                "drop(0, 1)" + ARGUMENT,
                "shelf(1, 2, 0, 0) -> 0", "put(0, 1, 1) -> -1", "put(0, 2, 2) -> -1",
                "drop(0, 1) -> 2", "drop(0, 1) -> 0", "drop(0, 3) -> 0", "has(0, 1) -> 0",
                "get(0, 1)" + ELEMENT, "told(0, 2) -> 1", "told(0, 6) -> 0", "victim(0) -> -1",
                "drop(0, 512)" + ARGUMENT, "drop(0, -1)" + ARGUMENT, "drop(1, 2)" + ARGUMENT,
                "all(0, 0) -> [2]", "put(0, 3, 3) -> -1", "put(0, 4, 4) -> 2");
        SCRIPT.run("promise 5: a ghost of QUEUES comes as if for the first time",
                "shelf(4, 1, 1, 2) -> 0", "put(0, 1, 1) -> -1", "put(0, 2, 2) -> 1",
                "drop(0, 1) -> 1", "drop(0, 1) -> 0", "told(0, 3) -> 0", "put(0, 1, 1) -> 2",
                "all(0, 0) -> [1]", "all(0, 1) -> []", "all(0, 2) -> [2]");
        SCRIPT.run("promise 5: a count of OFTEN does not outlive its key",
                "shelf(2, 2, 0, 0) -> 0", "put(0, 1, 1) -> -1", "get(0, 1) -> 1", "get(0, 1) -> 1",
                "drop(0, 1) -> 2", "put(0, 1, 1) -> -1", "put(0, 2, 2) -> -1", "get(0, 2) -> 2",
                "victim(0) -> 1");
        SCRIPT.run("promise 5: a mark of CLOCK does not outlive its key",
                "shelf(3, 2, 0, 0) -> 0", "put(0, 1, 1) -> -1", "put(0, 2, 2) -> -1",
                "get(0, 1) -> 1", "victim(0) -> 2", "drop(0, 1) -> 2", "put(0, 1, 1) -> -1",
                "victim(0) -> 1");
        SCRIPT.run("promise 5: the hand of a CLOCK stays",
                "shelf(3, 2, 0, 0) -> 0", "put(0, 1, 1) -> -1", "put(0, 2, 2) -> -1",
                "put(0, 3, 3) -> 1", "told(0, 7) -> 1", "get(0, 2) -> 2", "drop(0, 2) -> 2",
                "told(0, 7) -> 1", "all(0, 0) -> [3]", "drop(0, 3) -> 2", "put(0, 4, 4) -> -1",
                "put(0, 5, 5) -> -1", "all(0, 0) -> [4, 5]", "victim(0) -> 5");
    }

    private static void has() {
        SCRIPT.run("promise 6: held, a ghost, neither; wrong",
                "has(0, 0)" + ARGUMENT,
                "shelf(4, 1, 1, 1) -> 0", "shelf(1, 2, 0, 0) -> 1",
                "put(0, 0, 1) -> -1", "has(0, 0) -> 2", "put(0, 511, 1) -> 0", "has(0, 0) -> 1",
                "has(0, 511) -> 2", "has(0, 5) -> 0", "put(0, 2, 1) -> 511", "has(0, 0) -> 0",
                "has(0, -1)" + ARGUMENT, "has(0, 512)" + ARGUMENT, "has(2, 0)" + ARGUMENT,
                "has(-1, 0)" + ARGUMENT);
        SCRIPT.run("promise 6: it is not used by that",
                "shelf(1, 2, 0, 0) -> 0", "put(0, 1, 1) -> -1", "put(0, 2, 2) -> -1",
                "has(0, 1) -> 2", "has(0, 9) -> 0", "victim(0) -> 1", "told(0, 4) -> 0",
                "told(0, 5) -> 0");
    }

    private static void victim() {
        SCRIPT.run("promise 7: NONE until it is full, then the one that goes",
                "victim(0)" + ARGUMENT,
                "shelf(0, 2, 0, 0) -> 0", "victim(0) -> -1", "put(0, 0, 1) -> -1",
                "victim(0) -> -1", "put(0, 1, 1) -> -1", "victim(0) -> 0", "victim(0) -> 0",
                "get(0, 0) -> 1", "victim(0) -> 0", "put(0, 2, 1) -> 0", "victim(0) -> 1",
                "victim(1)" + ARGUMENT, "victim(-1)" + ARGUMENT, "victim(8)" + ARGUMENT);
        SCRIPT.run("promise 7: the marks and the hand of a CLOCK stay",
                "shelf(3, 3, 0, 0) -> 0", "put(0, 1, 1) -> -1", "put(0, 2, 2) -> -1",
                "put(0, 3, 3) -> -1", "get(0, 1) -> 1", "victim(0) -> 2", "told(0, 7) -> 0",
                "get(0, 2) -> 2", "victim(0) -> 3", "get(0, 3) -> 3", "victim(0) -> 1",
                "told(0, 7) -> 0", "put(0, 4, 4) -> 1", "told(0, 7) -> 1", "victim(0) -> 2");
    }

    private static void list() {
        SCRIPT.run("promise 8: how many lists each way has",
                "list(0, 0, 0)" + ARGUMENT,
                "shelf(0, 2, 0, 0) -> 0", "shelf(1, 2, 0, 0) -> 1", "shelf(2, 2, 0, 0) -> 2",
                "shelf(3, 2, 0, 0) -> 3", "shelf(4, 2, 1, 1) -> 4", "shelf(5, 2, 0, 0) -> 5",
                "list(0, 0, 0) -> -1", "list(1, 0, 0) -> -1", "list(2, 0, 0) -> -1",
                "list(3, 0, 0) -> -1", "list(4, 2, 0) -> -1", "list(5, 3, 0) -> -1",
                "list(0, 1, 0)" + ARGUMENT, "list(1, 1, 0)" + ARGUMENT, "list(2, 1, 0)" + ARGUMENT,
                "list(3, 1, 0)" + ARGUMENT, "list(4, 3, 0)" + ARGUMENT, "list(5, 4, 0)" + ARGUMENT,
                "list(0, -1, 0)" + ARGUMENT, "list(3, -1, 0)" + ARGUMENT,
                "list(6, 0, 0)" + ARGUMENT, "list(-1, 0, 0)" + ARGUMENT);
        SCRIPT.run("promise 8: NONE where there is no key",
                "shelf(0, 2, 0, 0) -> 0", "shelf(3, 3, 0, 0) -> 1", "put(0, 4, 1) -> -1",
                "put(1, 4, 1) -> -1", "put(1, 5, 1) -> -1", "put(1, 6, 1) -> -1",
                "drop(1, 5) -> 2", "list(0, 0, 0) -> 4", "list(0, 0, 1) -> -1",
                "list(0, 0, -1) -> -1", "list(0, 0, 2147483647) -> -1",
                "list(0, 0, -2147483648) -> -1", "list(1, 0, 0) -> 4", "list(1, 0, 1) -> -1",
                "list(1, 0, 2) -> 6", "list(1, 0, 3) -> -1", "list(1, 0, -1) -> -1",
                "list(1, 0, 2147483647) -> -1");
        SCRIPT.run("promise 8: in the order in which they would go",
                "shelf(0, 3, 0, 0) -> 0", "shelf(1, 3, 0, 0) -> 1", "shelf(2, 3, 0, 0) -> 2",
                "use(1) -> 0", "use(2) -> 0", "use(3) -> 0", "use(1) -> 7", "use(1) -> 7",
                "use(2) -> 7", "all(0, 0) -> [1, 2, 3]", "all(1, 0) -> [3, 1, 2]",
                "all(2, 0) -> [3, 2, 1]");
    }

    private static void told() {
        SCRIPT.run("promise 9: each number; wrong ones",
                "told(0, 0)" + ARGUMENT,
                "shelf(4, 2, 1, 5) -> 0", "put(0, 1, 1) -> -1", "told(0, 2) -> 1",
                "put(0, 2, 2) -> -1", "put(0, 3, 3) -> 1", "get(0, 2) -> 2", "get(0, 3) -> 3",
                "get(0, 1)" + ELEMENT, "put(0, 4, 4) -> 2", "put(0, 5, 5) -> 3",
                "told(0, 0) -> 4", "told(0, 1) -> 2", "told(0, 2) -> 2", "told(0, 3) -> 3",
                "told(0, 4) -> 2", "told(0, 5) -> 1", "told(0, 6) -> 3", "told(0, 7) -> 0",
                "told(0, 8)" + ARGUMENT, "told(0, -1)" + ARGUMENT, "told(1, 0)" + ARGUMENT,
                "told(-1, 0)" + ARGUMENT, "told(0, 2147483647)" + ARGUMENT);
        SCRIPT.run("promise 9: what has no hand or target, and uses count",
                "shelf(0, 1, 9, 9) -> 0", "shelf(1, 1, 9, 9) -> 1", "shelf(2, 1, 9, 9) -> 2",
                "use(1) -> 0", "use(1) -> 7", "use(2) -> 0", "use(2) -> 7", "use(1) -> 0",
                "told(0, 7) -> 0", "told(1, 7) -> 0", "told(2, 7) -> 0",
                "told(0, 4) -> 2", "told(1, 5) -> 3", "told(2, 6) -> 2", "told(2, 0) -> 2");
        SCRIPT.run("promise 9: DROP and forgotten ghosts did not go",
                "shelf(4, 1, 1, 1) -> 0", "put(0, 1, 1) -> -1", "drop(0, 1) -> 2",
                "told(0, 6) -> 0", "put(0, 2, 1) -> -1", "put(0, 3, 1) -> 2", "put(0, 4, 1) -> 3",
                "told(0, 6) -> 2", "told(0, 3) -> 1", "drop(0, 3) -> 1", "told(0, 6) -> 2");
    }

    private static void use() {
        SCRIPT.run("promise 10: bits, values and wrong keys",
                "use(7) -> 0", "shelf(0, 1, 0, 0) -> 0", "shelf(1, 2, 0, 0) -> 1",
                "use(7) -> 0", "get(0, 7) -> 2", "use(8) -> 0", "use(7) -> 2", "get(0, 7) -> 4",
                "get(1, 7) -> 2", "get(1, 8) -> 3", "use(-1)" + ARGUMENT, "use(512)" + ARGUMENT,
                "count(1) -> 4", "told(0, 5) -> 3", "use(511) -> 0", "use(0) -> 0",
                "count(1) -> 6");
        String[] rows = new String[306];
        rows[0] = "shelf(2, 64, 0, 0) -> 0";
        for (int i = 1; i <= 300; i++) {
            rows[i] = "use(" + (i + 100) + ") -> 0";
        }
        rows[301] = "use(400)" + STATE;
        rows[302] = "use(512)" + ARGUMENT;
        rows[303] = "told(0, 4) -> 0";
        rows[304] = "told(0, 5) -> 300";
        rows[305] = "count(1) -> 300";
        SCRIPT.run("promise 10: a full row", rows);
    }

    private static void clear() {
        SCRIPT.run("promise 11: the row is empty, shelves stay",
                "shelf(1, 2, 0, 0) -> 0", "use(1) -> 0", "use(2) -> 0", "use(1) -> 1",
                "clear() -> 3", "clear() -> 0", "count(0) -> 1", "count(1) -> 0", "count(2) -> 0",
                "distance(0)" + ARGUMENT, "curve(1) -> 0", "optimum(1) -> 0",
                "all(0, 0) -> [2, 1]", "told(0, 4) -> 1", "told(0, 5) -> 2",
                "use(3) -> 0", "get(0, 3) -> 1", "use(1) -> 1", "distance(1) -> -1",
                "count(2) -> 2", "optimum(64) -> 2");
        String[] rows = new String[303];
        for (int i = 0; i < 300; i++) {
            rows[i] = "use(1) -> 0";
        }
        rows[300] = "clear() -> 300";
        rows[301] = "use(2) -> 0";
        rows[302] = "clear() -> 1";
        SCRIPT.run("promise 11: a full row takes uses again", rows);
    }

    private static void distance() {
        SCRIPT.run("promise 12: different keys between both uses",
                "use(1) -> 0", "use(1) -> 0", "use(2) -> 0", "use(2) -> 0", "use(3) -> 0",
                "use(1) -> 0", "use(2) -> 0", "use(1) -> 0",
                "distance(0) -> -1", "distance(1) -> 0", "distance(2) -> -1", "distance(3) -> 0",
                "distance(4) -> -1", "distance(5) -> 2", "distance(6) -> 2", "distance(7) -> 1",
                "distance(8)" + ARGUMENT, "distance(-1)" + ARGUMENT,
                "distance(2147483647)" + ARGUMENT);
    }

    private static void curve() {
        SCRIPT.run("promise 13: uses without a distance, or one not below the capacity",
                "use(1) -> 0", "use(1) -> 0", "use(2) -> 0", "use(2) -> 0", "use(3) -> 0",
                "use(1) -> 0", "use(2) -> 0", "use(1) -> 0",
                "curve(1) -> 6", "curve(2) -> 5", "curve(3) -> 3", "curve(64) -> 3",
                "curve(0)" + ARGUMENT, "curve(65)" + ARGUMENT, "curve(-1)" + ARGUMENT);
    }

    private static void optimum() {
        SCRIPT.run("promise 14: the row 1 2 3 1 2 3 1 2",
                "use(1) -> 0", "use(2) -> 0", "use(3) -> 0", "use(1) -> 0", "use(2) -> 0",
                "use(3) -> 0", "use(1) -> 0", "use(2) -> 0",
                "optimum(1) -> 8", "optimum(2) -> 5", "optimum(3) -> 3", "optimum(64) -> 3",
                "curve(2) -> 8", "optimum(0)" + ARGUMENT, "optimum(65)" + ARGUMENT,
                "optimum(-1)" + ARGUMENT, "count(1) -> 8", "use(3) -> 0", "optimum(2) -> 6",
                "optimum(2) -> 6");
    }

    private static void count() {
        SCRIPT.run("promise 15: shelves, uses, different keys; wrong numbers",
                "shelf(0, 1, 0, 0) -> 0", "use(1) -> 0", "use(2) -> 0", "use(1) -> 0",
                "count(0) -> 1", "count(1) -> 3", "count(2) -> 2", "count(3)" + ARGUMENT,
                "count(-1)" + ARGUMENT, "put(0, 9, 9) -> 1", "count(1) -> 3", "count(2) -> 2");
    }

    private static void often() {
        SCRIPT.run("OFTEN: the least count, of several the one used longest ago",
                "shelf(2, 3, 0, 0) -> 0", "put(0, 1, 1) -> -1", "put(0, 2, 2) -> -1",
                "put(0, 3, 3) -> -1", "get(0, 3) -> 3", "get(0, 1) -> 1", "get(0, 2) -> 2",
                "all(0, 0) -> [3, 1, 2]", "put(0, 1, 9) -> -1", "all(0, 0) -> [3, 2, 1]",
                "put(0, 4, 4) -> 3", "all(0, 0) -> [4, 2, 1]", "put(0, 3, 3) -> 4",
                "all(0, 0) -> [3, 2, 1]", "get(0, 3) -> 3", "all(0, 0) -> [2, 3, 1]",
                "get(0, 9)" + ELEMENT, "victim(0) -> 2");
    }

    private static void clock() {
        SCRIPT.run("CLOCK: marks are cleared as the hand goes round",
                "shelf(3, 3, 0, 0) -> 0", "put(0, 1, 1) -> -1", "put(0, 2, 2) -> -1",
                "told(0, 7) -> 0", "put(0, 3, 3) -> -1", "put(0, 1, 5) -> -1", "get(0, 2) -> 2",
                "put(0, 4, 4) -> 3", "told(0, 7) -> 0", "all(0, 0) -> [1, 2, 4]",
                "put(0, 5, 5) -> 1", "told(0, 7) -> 1", "all(0, 0) -> [5, 2, 4]",
                "get(0, 5) -> 5", "get(0, 2) -> 2", "get(0, 4) -> 4", "put(0, 6, 6) -> 2",
                "told(0, 7) -> 2", "victim(0) -> 4", "drop(0, 5) -> 2", "drop(0, 6) -> 2",
                "put(0, 7, 7) -> -1", "all(0, 0) -> [7, -1, 4]", "told(0, 7) -> 2",
                "told(0, 2) -> 2", "told(0, 3) -> 0");
    }

    private static void queues() {
        SCRIPT.run("QUEUES: IN, MAIN and one ghost",
                "shelf(4, 3, 1, 1) -> 0", "put(0, 1, 1) -> -1", "put(0, 2, 2) -> -1",
                "put(0, 3, 3) -> -1", "get(0, 1) -> 1", "all(0, 0) -> [1, 2, 3]",
                "put(0, 4, 4) -> 1", "all(0, 2) -> [1]", "put(0, 1, 1) -> 2",
                "all(0, 0) -> [3, 4]", "all(0, 1) -> [1]", "all(0, 2) -> [2]",
                "put(0, 2, 2) -> 3", "all(0, 1) -> [1, 2]", "victim(0) -> 1", "put(0, 5, 5) -> 1",
                "has(0, 1) -> 0", "all(0, 0) -> [4, 5]", "all(0, 1) -> [2]", "all(0, 2) -> [3]",
                "put(0, 6, 6) -> 4", "all(0, 2) -> [4]", "all(0, 0) -> [5, 6]");
        SCRIPT.run("QUEUES: a ghost that comes is one no more before room is made",
                "shelf(4, 3, 1, 2) -> 0", "put(0, 1, 1) -> -1", "put(0, 2, 2) -> -1",
                "put(0, 3, 3) -> -1", "put(0, 4, 4) -> 1", "put(0, 5, 5) -> 2",
                "all(0, 2) -> [1, 2]", "put(0, 2, 2) -> 3", "all(0, 2) -> [1, 3]",
                "all(0, 0) -> [4, 5]", "all(0, 1) -> [2]");
        SCRIPT.run("QUEUES: using a key of MAIN makes it the latest there",
                "shelf(4, 3, 1, 3) -> 0", "put(0, 1, 1) -> -1", "put(0, 2, 2) -> -1",
                "put(0, 3, 3) -> -1", "put(0, 4, 4) -> 1", "put(0, 1, 1) -> 2", "put(0, 2, 2) -> 3",
                "all(0, 1) -> [1, 2]", "get(0, 1) -> 1", "all(0, 1) -> [2, 1]",
                "put(0, 2, 9) -> -1", "all(0, 1) -> [1, 2]", "get(0, 4) -> 4",
                "all(0, 0) -> [4]", "victim(0) -> 1");
        SCRIPT.run("QUEUES: MAIN has none",
                "shelf(4, 2, 2, 1) -> 0", "put(0, 1, 1) -> -1", "put(0, 2, 2) -> -1",
                "victim(0) -> 1", "put(0, 3, 3) -> 1", "all(0, 2) -> [1]");
    }

    private static void lists() {
        SCRIPT.run("LISTS: the target goes up, and down, and just at it (2)",
                "shelf(5, 3, 0, 0) -> 0", "put(0, 1, 1) -> -1", "put(0, 2, 2) -> -1",
                "put(0, 3, 3) -> -1", "get(0, 1) -> 1", "get(0, 2) -> 2", "all(0, 0) -> [3]",
                "all(0, 1) -> [1, 2]", "put(0, 4, 4) -> 3", "all(0, 2) -> [3]",
                "put(0, 3, 3) -> 1", "told(0, 7) -> 1", "all(0, 3) -> [1]", "victim(0) -> 2",
                "all(0, 0) -> [4]", "put(0, 5, 5) -> 2",
                "put(0, 6, 6) -> 4", "all(0, 0) -> [5, 6]", "all(0, 3) -> [1, 2]",
                "put(0, 4, 4) -> 3", "told(0, 7) -> 3", "all(0, 2) -> []", "victim(0) -> 4",
                "put(0, 1, 1) -> 5", "told(0, 7) -> 2", "all(0, 0) -> [6]", "all(0, 1) -> [4, 1]",
                "all(0, 2) -> [5]", "all(0, 3) -> [2, 3]", "put(0, 5, 5) -> 4", "told(0, 7) -> 3",
                "put(0, 2, 2) -> 1", "told(0, 7) -> 2", "all(0, 1) -> [5, 2]",
                "all(0, 3) -> [3, 4, 1]", "drop(0, 2) -> 2", "drop(0, 3) -> 1", "told(0, 7) -> 2",
                "told(0, 3) -> 2", "put(0, 7, 7) -> -1", "all(0, 0) -> [6, 7]",
                "all(0, 3) -> [4, 1]", "told(0, 6) -> 8");
        SCRIPT.run("LISTS: what is forgotten for a new key",
                "shelf(5, 1, 0, 0) -> 0", "put(0, 1, 1) -> -1", "get(0, 1) -> 1",
                "put(0, 2, 2) -> 1", "all(0, 3) -> [1]", "get(0, 2) -> 2", "put(0, 3, 3) -> 2",
                "all(0, 3) -> [2]", "has(0, 1) -> 0", "put(0, 4, 4) -> 3", "has(0, 3) -> 0",
                "all(0, 2) -> []", "told(0, 6) -> 3");
        SCRIPT.run("LISTS: ONCE alone is as many as the capacity",
                "shelf(5, 2, 0, 0) -> 0", "put(0, 1, 1) -> -1", "put(0, 2, 2) -> -1",
                "victim(0) -> 1", "put(0, 3, 3) -> 1", "has(0, 1) -> 0", "all(0, 0) -> [2, 3]",
                "told(0, 3) -> 0");
        SCRIPT.run("LISTS: ONCE and its ghosts are as many as the capacity",
                "shelf(5, 2, 0, 0) -> 0", "put(0, 1, 1) -> -1", "put(0, 2, 2) -> -1",
                "get(0, 1) -> 1", "put(0, 3, 3) -> 2", "all(0, 2) -> [2]", "victim(0) -> 3",
                "put(0, 4, 4) -> 3", "all(0, 2) -> [3]", "has(0, 2) -> 0", "all(0, 0) -> [4]",
                "all(0, 1) -> [1]", "put(0, 1, 5) -> -1", "put(0, 4, 6) -> -1",
                "all(0, 1) -> [1, 4]", "all(0, 0) -> []", "get(0, 1) -> 5",
                "all(0, 1) -> [4, 1]", "get(0, 4) -> 6");
    }
}
