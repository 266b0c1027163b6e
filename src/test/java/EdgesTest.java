/**
 * The sections "Promise 1" to "Promise 15" of the document: each edge that a sentence there names
 * has a script of its own, whose title says which, with answers worked out by hand.
 */
public final class EdgesTest {
    private static final String ARGUMENT = " -> throws.IllegalArgumentException";
    private static final String STATE = " -> throws.IllegalStateException";
    private static final String ELEMENT = " -> throws.NoSuchElementException";
    private static final int WAYS = 6;
    private static final int[] LISTS_OF_WAY = {1, 1, 1, 1, 3, 4};

    // IN [3], MAIN [1], ghosts [2].
    private static final String[] QUEUES_WITH_ALL = {
        "shelf(4, 2, 1, 1) -> 0", "put(0, 1, 1) -> -1", "put(0, 2, 2) -> -1", "put(0, 3, 3) -> 1",
        "put(0, 1, 1) -> 2"};
    // ONCE [7], TWICE [3, 4], ghosts of ONCE [6], of TWICE [1], target 1.
    private static final String[] LISTS_WITH_ALL = {
        "shelf(5, 3, 0, 0) -> 0", "put(0, 1, 1) -> -1", "get(0, 1) -> 1", "put(0, 3, 3) -> -1",
        "get(0, 3) -> 3", "put(0, 4, 4) -> -1", "put(0, 6, 6) -> 4", "put(0, 7, 7) -> 6",
        "put(0, 4, 4) -> 1"};

    private static final Script SCRIPT = new Script();

    public static void main(String[] args) {
        newObjects();
        for (int way = 0; way < WAYS; way++) {
            emptyShelf("way " + way + ": ", way);
            fullShelf("way " + way + ": ", way);
            listEnds("way " + way + ": ", way);
        }
        shelves();
        get();
        put();
        dropAndHas();
        victim();
        list();
        told();
        use();
        clear();
        distance();
        curveAndOptimum();
        count();
        SCRIPT.end();
    }

    private static String[] behind(String[] first, String... rest) {
        String[] all = new String[first.length + rest.length];
        System.arraycopy(first, 0, all, 0, first.length);
        System.arraycopy(rest, 0, all, first.length, rest.length);
        return all;
    }

    private static void newObjects() {
        SCRIPT.run("promise 1: no shelves, so no call on one",
                "count(0) -> 0", "get(0, 0)" + ARGUMENT, "put(0, 0, 0)" + ARGUMENT,
                "drop(0, 0)" + ARGUMENT, "has(0, 0)" + ARGUMENT, "victim(0)" + ARGUMENT,
                "list(0, 0, 0)" + ARGUMENT, "told(0, 0)" + ARGUMENT, "count(0) -> 0");
        SCRIPT.run("promise 1: an empty row",
                "count(1) -> 0", "count(2) -> 0", "distance(0)" + ARGUMENT, "curve(1) -> 0",
                "curve(64) -> 0", "optimum(1) -> 0", "optimum(64) -> 0", "clear() -> 0");
        Rack one = new RealRack();
        Rack other = new RealRack();
        SCRIPT.same("promise 1: two objects", "0", Rack.answerTo(one, "shelf(0, 1, 0, 0)"));
        SCRIPT.same("promise 1: two objects", "0", Rack.answerTo(one, "use(1)"));
        SCRIPT.same("promise 1: two objects", "0", Rack.answerTo(other, "count(0)"));
        SCRIPT.same("promise 1: two objects", "0", Rack.answerTo(other, "count(1)"));
        SCRIPT.same("promise 1: two objects", "0", Rack.answerTo(other, "shelf(1, 2, 0, 0)"));
        SCRIPT.same("promise 1: two objects", "0", Rack.answerTo(one, "told(0, 0)"));
        SCRIPT.same("NONE", "-1", Integer.toString(PolicyRack.NONE));
    }

    private static void emptyShelf(String name, int way) {
        SCRIPT.run(name + "promise 2: one more shelf, empty",
                "shelf(" + way + ", 7, 3, 2) -> 0", "told(0, 0) -> " + way, "told(0, 1) -> 7",
                "# = 2 .. 7: told(0, #) -> 0", "victim(0) -> -1", "has(0, 0) -> 0",
                "# = 0 .. " + (LISTS_OF_WAY[way] - 1) + ": all(0, #) -> []", "drop(0, 0) -> 0",
                "get(0, 0)" + ELEMENT, "told(0, 5) -> 1", "count(0) -> 1", "count(1) -> 0");
        SCRIPT.run(name + "promise 2: it is empty beside one that is not",
                "shelf(" + way + ", 1, 1, 1) -> 0", "put(0, 1, 1) -> -1", "put(0, 2, 2) -> 1",
                "use(2) -> 1", "shelf(" + way + ", 1, 1, 1) -> 1", "# = 2 .. 7: told(1, #) -> 0",
                "has(1, 1) -> 0", "has(1, 2) -> 0", "put(1, 3, 3) -> -1", "has(0, 3) -> 0",
                "has(0, 2) -> 2", "told(0, 2) -> 1");
    }

    private static void fullShelf(String name, int way) {
        SCRIPT.run(name + "promise 4: key 0 goes, which is not NONE",
                "shelf(" + way + ", 1, 1, 1) -> 0", "put(0, 0, 1) -> -1", "victim(0) -> 0",
                "list(0, 0, 0) -> 0", "put(0, 511, 1) -> 0", "victim(0) -> 511",
                "list(0, 0, 0) -> 511", "told(0, 6) -> 1");
        SCRIPT.run(name + "promise 6: HAS uses nothing, and counts nothing",
                "shelf(" + way + ", 2, 1, 1) -> 0", "put(0, 1, 1) -> -1", "put(0, 2, 2) -> -1",
                "has(0, 1) -> 2", "has(0, 1) -> 2", "has(0, 3) -> 0", "told(0, 4) -> 0",
                "told(0, 5) -> 0", "all(0, 0) -> [1, 2]", "victim(0) -> 1", "put(0, 3, 3) -> 1");
        SCRIPT.run(name + "promise 7: NONE if a key is missing, and it changes nothing",
                "shelf(" + way + ", 3, 1, 1) -> 0", "victim(0) -> -1", "put(0, 1, 1) -> -1",
                "put(0, 2, 2) -> -1", "victim(0) -> -1", "put(0, 3, 3) -> -1", "victim(0) -> 1",
                "victim(0) -> 1", "told(0, 2) -> 3", "told(0, 3) -> 0", "told(0, 6) -> 0",
                "has(0, 1) -> 2", "drop(0, 2) -> 2", "victim(0) -> -1", "put(0, 4, 4) -> -1",
                "victim(0) -> 1", "put(0, 5, 5) -> 1");
    }

    private static void listEnds(String name, int way) {
        SCRIPT.run(name + "promise 8: NONE before the first and behind the last, of each list",
                "shelf(" + way + ", 2, 1, 1) -> 0", "use(1) -> 0", "use(2) -> 0",
                "list(0, 0, 0) -> 1", "list(0, 0, 1) -> 2",
                "# = 0 .. " + (LISTS_OF_WAY[way] - 1) + ": list(0, #, -1) -> -1",
                "# = 0 .. " + (LISTS_OF_WAY[way] - 1) + ": list(0, #, 2) -> -1",
                "# = 0 .. " + (LISTS_OF_WAY[way] - 1) + ": list(0, #, -2147483648) -> -1",
                "# = 0 .. " + (LISTS_OF_WAY[way] - 1) + ": list(0, #, 2147483647) -> -1");
        SCRIPT.run(name + "promise 8: no such list, whatever the key's number",
                "shelf(" + way + ", 2, 1, 1) -> 0", "put(0, 1, 1) -> -1",
                "list(0, -1, 0)" + ARGUMENT, "list(0, " + LISTS_OF_WAY[way] + ", 0)" + ARGUMENT,
                "list(0, " + LISTS_OF_WAY[way] + ", -1)" + ARGUMENT,
                "list(0, 2147483647, 0)" + ARGUMENT, "list(0, -2147483648, 5)" + ARGUMENT,
                "list(1, 0, 0)" + ARGUMENT, "list(-1, 0, 0)" + ARGUMENT);
    }

    private static void shelves() {
        SCRIPT.run("promise 2: no such way",
                "shelf(-1, 1, 1, 1)" + ARGUMENT, "shelf(6, 1, 1, 1)" + ARGUMENT,
                "shelf(-2147483648, 1, 1, 1)" + ARGUMENT, "shelf(2147483647, 1, 1, 1)" + ARGUMENT,
                "count(0) -> 0", "shelf(5, 1, 1, 1) -> 0", "shelf(0, 1, 1, 1) -> 1");
        SCRIPT.run("promise 2: a and b count for nothing else",
                "shelf(0, 2, -2147483648, 2147483647) -> 0",
                "shelf(1, 2, 2147483647, -2147483648) -> 1", "shelf(2, 2, 0, 0) -> 2",
                "shelf(3, 2, 3, 65) -> 3", "shelf(5, 2, -1, -1) -> 4",
                "# = 0 .. 4: told(#, 1) -> 2", "# = 0 .. 4: told(#, 7) -> 0");
        SCRIPT.run("promise 2: which one, and a refused one takes no number",
                "shelf(0, 1, 0, 0) -> 0", "shelf(0, 0, 0, 0)" + ARGUMENT,
                "shelf(4, 1, 2, 1)" + ARGUMENT, "shelf(1, 1, 0, 0) -> 1", "told(0, 0) -> 0",
                "told(1, 0) -> 1", "told(2, 0)" + ARGUMENT);
        SCRIPT.run("promise 2: there are 7, and 8",
                "# = 0 .. 6: shelf(5, 3, 1, 1) -> #", "count(0) -> 7", "shelf(4, 3, 1, 1) -> 7",
                "count(0) -> 8", "shelf(4, 3, 1, 1)" + STATE, "shelf(5, 3, 1, 1)" + STATE,
                "count(0) -> 8", "told(7, 0) -> 4", "told(8, 0)" + ARGUMENT);
        SCRIPT.run("promise 2: there are 8, but the argument is named first",
                "# = 0 .. 7: shelf(0, 1, 1, 1) -> #", "shelf(-1, 1, 1, 1)" + ARGUMENT,
                "shelf(6, 1, 1, 1)" + ARGUMENT, "shelf(0, 0, 1, 1)" + ARGUMENT,
                "shelf(0, 65, 1, 1)" + ARGUMENT, "shelf(4, 1, 2, 1)" + ARGUMENT,
                "shelf(4, 1, 0, 1)" + ARGUMENT, "shelf(4, 1, 1, 0)" + ARGUMENT,
                "shelf(4, 1, 1, 65)" + ARGUMENT, "shelf(0, 1, 2, 65)" + STATE);
    }

    private static void get() {
        SCRIPT.run("promise 3: no such key is no miss, no such element is one",
                "shelf(0, 1, 0, 0) -> 0", "get(0, 512)" + ARGUMENT, "told(0, 5) -> 0",
                "get(0, -1)" + ARGUMENT, "told(0, 5) -> 0", "get(0, 511)" + ELEMENT,
                "told(0, 5) -> 1", "get(0, 511)" + ELEMENT, "told(0, 5) -> 2", "told(0, 4) -> 0");
        SCRIPT.run("promise 3: no such shelf, and no shelf counts a miss",
                "shelf(0, 1, 0, 0) -> 0", "get(1, 0)" + ARGUMENT, "get(-1, 0)" + ARGUMENT,
                "get(8, 0)" + ARGUMENT, "get(1, 512)" + ARGUMENT, "told(0, 5) -> 0");
        SCRIPT.run("promise 3: one shelf's hit is none of another one's",
                "shelf(0, 1, 0, 0) -> 0", "shelf(0, 1, 0, 0) -> 1", "put(0, 1, 10) -> -1",
                "put(1, 1, 11) -> -1", "get(0, 1) -> 10", "get(1, 1) -> 11", "get(1, 1) -> 11",
                "told(0, 4) -> 1", "told(1, 4) -> 2");
    }

    private static void put() {
        SCRIPT.run("promise 4: a ghost of QUEUES comes: the key that goes",
                behind(QUEUES_WITH_ALL, "put(0, 2, 2) -> 1", "all(0, 1) -> [2]",
                        "all(0, 2) -> []", "told(0, 6) -> 3"));
        SCRIPT.run("promise 4: a ghost of LISTS comes: the key that goes",
                behind(LISTS_WITH_ALL, "put(0, 1, 1) -> 7", "told(0, 7) -> 0",
                        "all(0, 2) -> [6, 7]", "put(0, 6, 6) -> 3", "told(0, 7) -> 1",
                        "all(0, 1) -> [4, 1, 6]", "told(0, 6) -> 5"));
        SCRIPT.run("promise 4: no such key, no such shelf",
                "shelf(0, 1, 0, 0) -> 0", "put(0, 1, 1) -> -1", "put(0, 512, 1)" + ARGUMENT,
                "put(0, -1, 1)" + ARGUMENT, "put(1, 2, 1)" + ARGUMENT, "put(-1, 2, 1)" + ARGUMENT,
                "put(8, 2, 1)" + ARGUMENT, "told(0, 6) -> 0", "get(0, 1) -> 1");
    }

    private static void dropAndHas() {
        SCRIPT.run("promises 5, 6: QUEUES, of each list",
                behind(QUEUES_WITH_ALL, "has(0, 3) -> 2", "has(0, 1) -> 2", "has(0, 2) -> 1",
                        "has(0, 4) -> 0", "drop(0, 3) -> 2", "drop(0, 1) -> 2", "drop(0, 2) -> 1",
                        "drop(0, 4) -> 0", "# = 1 .. 4: has(0, #) -> 0", "told(0, 2) -> 0",
                        "told(0, 3) -> 0", "# = 0 .. 2: all(0, #) -> []", "told(0, 6) -> 2"));
        SCRIPT.run("promises 5, 6: LISTS, of each list",
                behind(LISTS_WITH_ALL, "told(0, 7) -> 1", "has(0, 7) -> 2", "has(0, 3) -> 2",
                        "has(0, 6) -> 1", "has(0, 1) -> 1", "has(0, 5) -> 0", "drop(0, 7) -> 2",
                        "all(0, 0) -> []", "drop(0, 3) -> 2", "all(0, 1) -> [4]",
                        "drop(0, 6) -> 1", "all(0, 2) -> []", "drop(0, 1) -> 1",
                        "all(0, 3) -> []", "drop(0, 5) -> 0", "told(0, 2) -> 1",
                        "told(0, 3) -> 0", "told(0, 6) -> 3", "told(0, 7) -> 1"));
        SCRIPT.run("promise 5: a CLOCK's first, last and only place",
                "shelf(3, 3, 0, 0) -> 0", "# = 1 .. 3: put(0, #, #) -> -1", "drop(0, 3) -> 2",
                "all(0, 0) -> [1, 2]", "drop(0, 1) -> 2", "all(0, 0) -> [-1, 2]",
                "told(0, 2) -> 1", "drop(0, 2) -> 2", "all(0, 0) -> []", "told(0, 2) -> 0",
                "drop(0, 2) -> 0", "put(0, 4, 4) -> -1", "all(0, 0) -> [4]");
        SCRIPT.run("promise 5: the first, the last and one between",
                "shelf(0, 5, 0, 0) -> 0", "# = 1 .. 5: put(0, #, #) -> -1", "drop(0, 1) -> 2",
                "all(0, 0) -> [2, 3, 4, 5]", "drop(0, 5) -> 2", "all(0, 0) -> [2, 3, 4]",
                "drop(0, 3) -> 2", "all(0, 0) -> [2, 4]", "told(0, 2) -> 2");
    }

    private static void victim() {
        SCRIPT.run("promise 7: QUEUES, IN has just a, then more",
                behind(QUEUES_WITH_ALL, "all(0, 0) -> [3]", "all(0, 1) -> [1]", "victim(0) -> 1",
                        "put(0, 9, 9) -> 1", "all(0, 0) -> [3, 9]", "victim(0) -> 3",
                        "all(0, 2) -> [2]", "put(0, 8, 8) -> 3"));
        SCRIPT.run("promise 7: LISTS, ONCE has just t, which counts in (2) alone",
                behind(LISTS_WITH_ALL, "all(0, 0) -> [7]", "told(0, 7) -> 1", "victim(0) -> 3",
                        "all(0, 2) -> [6]", "all(0, 3) -> [1]", "told(0, 7) -> 1",
                        "put(0, 9, 9) -> 3", "victim(0) -> 7", "put(0, 10, 10) -> 7"));
        SCRIPT.run("promise 7: LISTS, ONCE has none",
                "shelf(5, 2, 0, 0) -> 0", "put(0, 1, 1) -> -1", "put(0, 2, 2) -> -1",
                "get(0, 2) -> 2", "victim(0) -> 1", "get(0, 1) -> 1", "victim(0) -> 2",
                "put(0, 3, 3) -> 2", "all(0, 3) -> [2]");
        SCRIPT.run("promise 7: no such shelf",
                "victim(0)" + ARGUMENT, "shelf(0, 1, 0, 0) -> 0", "victim(0) -> -1",
                "victim(1)" + ARGUMENT, "victim(-1)" + ARGUMENT, "victim(8)" + ARGUMENT,
                "victim(-2147483648)" + ARGUMENT, "victim(2147483647)" + ARGUMENT);
    }

    private static void list() {
        SCRIPT.run("promise 8: QUEUES: 0 IN, 1 MAIN, 2 ghosts",
                behind(QUEUES_WITH_ALL, "list(0, 0, 0) -> 3", "list(0, 0, 1) -> -1",
                        "list(0, 1, 0) -> 1", "list(0, 1, 1) -> -1", "list(0, 2, 0) -> 2",
                        "list(0, 2, 1) -> -1", "list(0, 3, 0)" + ARGUMENT));
        SCRIPT.run("promise 8: LISTS: 0 ONCE, 1 TWICE, 2 ghosts of ONCE, 3 of TWICE",
                behind(LISTS_WITH_ALL, "list(0, 0, 0) -> 7", "list(0, 0, 1) -> -1",
                        "list(0, 1, 0) -> 3", "list(0, 1, 1) -> 4", "list(0, 1, 2) -> -1",
                        "list(0, 2, 0) -> 6", "list(0, 2, 1) -> -1", "list(0, 3, 0) -> 1",
                        "list(0, 3, 1) -> -1", "list(0, 4, 0)" + ARGUMENT));
        SCRIPT.run("promise 8: a free place of a CLOCK, too: the first one",
                "shelf(3, 2, 0, 0) -> 0", "list(0, 0, 0) -> -1", "put(0, 0, 1) -> -1",
                "put(0, 1, 1) -> -1", "drop(0, 0) -> 2", "list(0, 0, 0) -> -1",
                "list(0, 0, 1) -> 1", "list(0, 0, 2) -> -1");
    }

    private static void told() {
        SCRIPT.run("promise 9: another number",
                "shelf(5, 1, 0, 0) -> 0", "told(0, 7) -> 0", "told(0, 8)" + ARGUMENT,
                "told(0, -1)" + ARGUMENT, "told(0, -2147483648)" + ARGUMENT,
                "told(0, 2147483647)" + ARGUMENT, "told(1, 8)" + ARGUMENT);
        SCRIPT.run("promise 9: misses of GET, those of USES too, none of PUT",
                "shelf(1, 1, 0, 0) -> 0", "put(0, 1, 1) -> -1", "told(0, 5) -> 0",
                "get(0, 2)" + ELEMENT, "told(0, 5) -> 1", "use(2) -> 0", "told(0, 5) -> 2",
                "told(0, 4) -> 0", "use(2) -> 1", "told(0, 4) -> 1", "put(0, 2, 5) -> -1",
                "told(0, 4) -> 1", "told(0, 5) -> 2", "told(0, 6) -> 1");
        SCRIPT.run("promise 9: how many went: for a key that came by PUT, and by USE",
                "shelf(0, 1, 0, 0) -> 0", "put(0, 1, 1) -> -1", "told(0, 6) -> 0",
                "put(0, 2, 2) -> 1", "told(0, 6) -> 1", "use(3) -> 0", "told(0, 6) -> 2",
                "drop(0, 3) -> 2", "told(0, 6) -> 2", "use(4) -> 0", "told(0, 6) -> 2");
        SCRIPT.run("promise 9: forgotten ghosts do not count, in QUEUES",
                "shelf(4, 1, 1, 1) -> 0", "put(0, 1, 1) -> -1", "put(0, 2, 2) -> 1",
                "told(0, 6) -> 1", "told(0, 3) -> 1", "put(0, 3, 3) -> 2", "told(0, 6) -> 2",
                "told(0, 3) -> 1", "drop(0, 2) -> 1", "told(0, 6) -> 2", "told(0, 3) -> 0");
        SCRIPT.run("promise 9: forgotten ghosts do not count, in LISTS",
                "shelf(5, 1, 0, 0) -> 0", "put(0, 1, 1) -> -1", "get(0, 1) -> 1",
                "put(0, 2, 2) -> 1", "get(0, 2) -> 2", "told(0, 6) -> 1", "put(0, 3, 3) -> 2",
                "has(0, 1) -> 0", "told(0, 6) -> 2", "told(0, 3) -> 1", "drop(0, 2) -> 1",
                "told(0, 6) -> 2");
        SCRIPT.run("promise 9: the ghosts of LISTS are those of both",
                behind(LISTS_WITH_ALL, "told(0, 2) -> 3", "told(0, 3) -> 2", "told(0, 4) -> 2",
                        "told(0, 5) -> 0", "told(0, 6) -> 3", "told(0, 7) -> 1"));
        SCRIPT.run("promise 9: no hand and no target, but 0",
                behind(QUEUES_WITH_ALL, "told(0, 7) -> 0", "shelf(0, 1, 5, 5) -> 1",
                        "shelf(1, 1, 5, 5) -> 2", "shelf(2, 1, 5, 5) -> 3", "use(8) -> 0",
                        "use(8) -> 15", "use(9) -> 0", "# = 0 .. 3: told(#, 7) -> 0"));
    }

    private static void use() {
        SCRIPT.run("promise 10: the bits of the first shelf and of the eighth",
                "# = 0 .. 7: shelf(0, 1, 0, 0) -> #", "use(5) -> 0", "use(5) -> 255",
                "# = 1 .. 7: drop(#, 5) -> 2", "use(5) -> 1", "# = 0 .. 6: drop(#, 5) -> 2",
                "use(5) -> 128", "get(7, 5) -> 3", "get(0, 5) -> 4");
        SCRIPT.run("promise 10: a ghost is no hit, and comes",
                behind(QUEUES_WITH_ALL, "use(2) -> 0", "get(0, 2) -> 1", "has(0, 1) -> 0",
                        "all(0, 1) -> [2]", "told(0, 5) -> 1"));
        SCRIPT.run("promise 10: no such key",
                "use(-1)" + ARGUMENT, "use(512)" + ARGUMENT, "use(-2147483648)" + ARGUMENT,
                "use(2147483647)" + ARGUMENT, "count(1) -> 0", "use(0) -> 0", "use(511) -> 0",
                "count(1) -> 2", "count(2) -> 2");
        SCRIPT.run("promise 10: the row is full, but the key is named first",
                "# = 1 .. 300: use(3) -> 0", "use(3)" + STATE, "use(512)" + ARGUMENT,
                "use(-1)" + ARGUMENT, "count(1) -> 300", "count(2) -> 1", "clear() -> 300",
                "use(3) -> 0", "count(1) -> 1");
    }

    private static void clear() {
        SCRIPT.run("promise 11: an empty row, a row of one, and twice",
                "clear() -> 0", "use(1) -> 0", "clear() -> 1", "clear() -> 0", "count(1) -> 0",
                "count(2) -> 0", "distance(0)" + ARGUMENT);
        SCRIPT.run("promise 11: LISTS stays, with its ghosts and target",
                behind(LISTS_WITH_ALL, "use(8) -> 0", "clear() -> 1", "all(0, 0) -> [7, 8]",
                        "all(0, 1) -> [4]", "all(0, 2) -> [6]", "all(0, 3) -> [1, 3]",
                        "told(0, 7) -> 1", "told(0, 4) -> 2", "told(0, 5) -> 1",
                        "told(0, 6) -> 4", "get(0, 8) -> 1"));
        SCRIPT.run("promise 11: CLOCK stays, with its hand and marks",
                "shelf(3, 2, 0, 0) -> 0", "use(1) -> 0", "use(2) -> 0", "use(3) -> 0",
                "use(2) -> 1", "clear() -> 4", "told(0, 7) -> 1", "all(0, 0) -> [3, 2]",
                "victim(0) -> 3", "count(0) -> 1");
        SCRIPT.run("promise 11: no key was used before",
                "use(1) -> 0", "use(2) -> 0", "clear() -> 2", "use(1) -> 0", "distance(0) -> -1",
                "use(1) -> 0", "distance(1) -> 0", "curve(1) -> 1", "optimum(1) -> 1",
                "count(2) -> 1");
    }

    private static void distance() {
        SCRIPT.run("promise 12: there is no such use",
                "distance(0)" + ARGUMENT, "use(1) -> 0", "distance(0) -> -1",
                "distance(1)" + ARGUMENT, "distance(-1)" + ARGUMENT,
                "distance(-2147483648)" + ARGUMENT, "distance(2147483647)" + ARGUMENT,
                "clear() -> 1", "distance(0)" + ARGUMENT);
        SCRIPT.run("promise 12: the last use of a full row",
                "# = 1 .. 299: use(1) -> 0", "distance(299)" + ARGUMENT, "use(2) -> 0",
                "distance(299) -> -1", "distance(298) -> 0", "distance(300)" + ARGUMENT);
        SCRIPT.run("promise 12: a later use changes no distance",
                "use(1) -> 0", "use(2) -> 0", "use(1) -> 0", "distance(2) -> 1", "use(2) -> 0",
                "use(1) -> 0", "distance(2) -> 1", "distance(0) -> -1", "distance(1) -> -1");
    }

    private static void curveAndOptimum() {
        String[] names = {"promise 13: curve", "promise 14: optimum"};
        for (String name : names) {
            String call = name.substring(name.indexOf(": ") + 2);
            SCRIPT.run(name + ", not 1 .. 64",
                    "use(1) -> 0", call + "(0)" + ARGUMENT, call + "(65)" + ARGUMENT,
                    call + "(-1)" + ARGUMENT, call + "(-2147483648)" + ARGUMENT,
                    call + "(2147483647)" + ARGUMENT, call + "(1) -> 1", call + "(64) -> 1");
            SCRIPT.run(name + " of an empty row",
                    call + "(0)" + ARGUMENT, "# = 1 .. 64: " + call + "(#) -> 0",
                    call + "(65)" + ARGUMENT);
            SCRIPT.run(name + " of 300 different keys",
                    "# = 0 .. 299: use(#) -> 0", "# = 1 .. 64: " + call + "(#) -> 300");
            SCRIPT.run(name + " of one key, 300 times",
                    "# = 0 .. 299: use(511) -> 0", "# = 1 .. 64: " + call + "(#) -> 1");
        }
    }

    private static void count() {
        SCRIPT.run("promise 15: another number",
                "count(3)" + ARGUMENT, "count(-1)" + ARGUMENT, "count(-2147483648)" + ARGUMENT,
                "count(2147483647)" + ARGUMENT);
        SCRIPT.run("promise 15: no shelf up to eight",
                "count(0) -> 0", "shelf(0, 1, 0, 0) -> 0", "count(0) -> 1",
                "# = 1 .. 7: shelf(0, 1, 0, 0) -> #", "count(0) -> 8");
        SCRIPT.run("promise 15: no use up to 300, and different keys",
                "count(1) -> 0", "count(2) -> 0", "use(0) -> 0", "count(1) -> 1", "count(2) -> 1",
                "use(0) -> 0", "count(1) -> 2", "count(2) -> 1", "# = 1 .. 298: use(#) -> 0",
                "count(1) -> 300", "count(2) -> 299", "clear() -> 300", "count(2) -> 0");
    }
}
