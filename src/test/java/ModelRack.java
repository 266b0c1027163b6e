import java.util.ArrayList;
import java.util.Arrays;
import java.util.Comparator;
import java.util.HashSet;
import java.util.List;
import java.util.NoSuchElementException;
import java.util.Set;

/**
 * The document once more, word by word and without a thought for speed: stamps instead of kept
 * orders, and everything about the row counted afresh by each call.
 */
final class ModelRack implements Rack {
    private static final int NONE = -1;

    private static final class Item {
        final int key;
        int value;
        int came;
        int used;
        int count = 1;
        boolean mark;

        Item(int key) {
            this.key = key;
        }
    }

    private static final class Shelf {
        int way;
        int c;
        int a;
        int b;
        int time;
        int hits;
        int misses;
        int went;
        int hand;
        int target;
        Item[] places;
        final List<Item> line = new ArrayList<>();
        final List<Item> second = new ArrayList<>();
        final List<Integer> ghosts = new ArrayList<>();
        final List<Integer> secondGhosts = new ArrayList<>();
    }

    private final List<Shelf> shelves = new ArrayList<>();
    private final List<Integer> row = new ArrayList<>();

    @Override
    public int call(String name, int[] args) {
        return switch (name) {
            case "shelf" -> newShelf(args[0], args[1], args[2], args[3]);
            case "get" -> get(shelfAt(args[0]), key(args[1]));
            case "put" -> put(shelfAt(args[0]), key(args[1]), args[2]);
            case "drop" -> drop(shelfAt(args[0]), key(args[1]));
            case "has" -> has(shelfAt(args[0]), key(args[1]));
            case "victim" -> victim(shelfAt(args[0]));
            case "list" -> list(shelfAt(args[0]), args[1], args[2]);
            case "told" -> told(shelfAt(args[0]), args[1]);
            case "use" -> use(key(args[0]));
            case "clear" -> clear();
            case "distance" -> distance(args[0]);
            case "curve" -> curve(capacity(args[0]));
            case "optimum" -> optimum(capacity(args[0]));
            case "count" -> count(args[0]);
            default -> throw new AssertionError(name);
        };
    }

    /** All that decides what a shelf will do, but for which keys it is about. */
    String shape(int shelf) {
        Shelf s = shelves.get(shelf);
        StringBuilder text = new StringBuilder();
        text.append(s.line.size()).append(' ').append(s.second.size()).append(' ')
                .append(s.ghosts.size()).append(' ').append(s.secondGhosts.size()).append(" at ")
                .append(s.hand).append(' ').append(s.target).append(':');
        for (Item place : s.places) {
            text.append(place == null ? " free" : place.mark ? " marked" : " plain");
        }
        if (s.way == 2) {
            orderOfGoing(s).forEach(item -> text.append(' ').append(item.count));
        }
        return text.toString();
    }

    int greatestCount(int shelf) {
        return held(shelves.get(shelf)).stream().mapToInt(item -> item.count).max().orElse(0);
    }

    private static void demand(boolean good) {
        if (!good) {
            throw new IllegalArgumentException();
        }
    }

    private Shelf shelfAt(int i) {
        demand(i >= 0 && i < shelves.size());
        return shelves.get(i);
    }

    private static int key(int key) {
        demand(key >= 0 && key <= 511);
        return key;
    }

    private static int capacity(int capacity) {
        demand(capacity >= 1 && capacity <= 64);
        return capacity;
    }

    private int newShelf(int way, int c, int a, int b) {
        demand(way >= 0 && way <= 5);
        capacity(c);
        demand(way != 4 || a >= 1 && a <= c && b >= 1 && b <= 64);
        if (shelves.size() == 8) {
            throw new IllegalStateException();
        }
        Shelf s = new Shelf();
        s.way = way;
        s.c = c;
        s.a = a;
        s.b = b;
        s.places = new Item[c];
        shelves.add(s);
        return shelves.size() - 1;
    }

    private static List<Item> held(Shelf s) {
        List<Item> held = new ArrayList<>(s.line);
        held.addAll(s.second);
        for (Item item : s.places) {
            if (item != null) {
                held.add(item);
            }
        }
        return held;
    }

    private static Item find(Shelf s, int key) {
        for (Item item : held(s)) {
            if (item.key == key) {
                return item;
            }
        }
        return null;
    }

    private static int has(Shelf s, int key) {
        if (find(s, key) != null) {
            return 2;
        }
        return s.ghosts.contains(key) || s.secondGhosts.contains(key) ? 1 : 0;
    }

    private static int get(Shelf s, int key) {
        Item item = find(s, key);
        if (item == null) {
            s.misses++;
            throw new NoSuchElementException();
        }
        s.hits++;
        used(s, item);
        return item.value;
    }

    private static int put(Shelf s, int key, int value) {
        Item item = find(s, key);
        if (item != null) {
            item.value = value;
            used(s, item);
            return NONE;
        }
        item = new Item(key);
        item.value = value;
        item.came = ++s.time;
        item.used = item.came;
        int gone = switch (s.way) {
            case 3 -> comesToClock(s, item);
            case 4 -> comesToQueues(s, item);
            case 5 -> comesToLists(s, item);
            default -> comesToLine(s, item);
        };
        if (gone != NONE) {
            s.went++;
        }
        return gone;
    }

    private static void used(Shelf s, Item item) {
        item.used = ++s.time;
        item.count++;
        item.mark = true;
        if (s.way == 4 && s.second.remove(item)) {
            s.second.add(item);
        }
        if (s.way == 5) {
            s.line.remove(item);
            s.second.remove(item);
            s.second.add(item);
        }
    }

    private static List<Item> orderOfGoing(Shelf s) {
        List<Item> order = new ArrayList<>(s.line);
        Comparator<Item> byUse = Comparator.comparingInt((Item item) -> item.used);
        if (s.way == 0) {
            order.sort(Comparator.comparingInt((Item item) -> item.came));
        } else if (s.way == 1) {
            order.sort(byUse);
        } else {
            order.sort(Comparator.comparingInt((Item item) -> item.count).thenComparing(byUse));
        }
        return order;
    }

    private static int comesToLine(Shelf s, Item item) {
        int gone = NONE;
        if (s.line.size() == s.c) {
            Item first = orderOfGoing(s).get(0);
            s.line.remove(first);
            gone = first.key;
        }
        s.line.add(item);
        return gone;
    }

    private static int comesToClock(Shelf s, Item item) {
        for (int i = 0; i < s.c; i++) {
            if (s.places[i] == null) {
                s.places[i] = item;
                return NONE;
            }
        }
        while (s.places[s.hand].mark) {
            s.places[s.hand].mark = false;
            s.hand = (s.hand + 1) % s.c;
        }
        int gone = s.places[s.hand].key;
        s.places[s.hand] = item;
        s.hand = (s.hand + 1) % s.c;
        return gone;
    }

    private static int comesToQueues(Shelf s, Item item) {
        boolean ghost = s.ghosts.remove(Integer.valueOf(item.key));
        int gone = NONE;
        if (s.line.size() + s.second.size() == s.c) {
            if (s.line.size() > s.a || s.second.isEmpty()) {
                gone = s.line.remove(0).key;
                s.ghosts.add(gone);
                if (s.ghosts.size() > s.b) {
                    s.ghosts.remove(0);
                }
            } else {
                gone = s.second.remove(0).key;
            }
        }
        (ghost ? s.second : s.line).add(item);
        return gone;
    }

    private static int comesToLists(Shelf s, Item item) {
        Integer key = item.key;
        int ofOnce = s.ghosts.size();
        int ofTwice = s.secondGhosts.size();
        int gone = NONE;
        if (s.ghosts.contains(key)) {
            s.target = Math.min(s.c, s.target + Math.max(1, ofTwice / ofOnce));
            s.ghosts.remove(key);
            gone = makeRoom(s, false);
            s.second.add(item);
        } else if (s.secondGhosts.contains(key)) {
            s.target = Math.max(0, s.target - Math.max(1, ofOnce / ofTwice));
            s.secondGhosts.remove(key);
            gone = makeRoom(s, true);
            s.second.add(item);
        } else {
            int all = s.line.size() + s.second.size() + ofOnce + ofTwice;
            if (s.line.size() + ofOnce == s.c) {
                if (s.line.size() < s.c) {
                    s.ghosts.remove(0);
                    gone = makeRoom(s, false);
                } else {
                    gone = s.line.remove(0).key;
                }
            } else if (all >= s.c) {
                if (all == 2 * s.c) {
                    s.secondGhosts.remove(0);
                }
                gone = makeRoom(s, false);
            }
            s.line.add(item);
        }
        return gone;
    }

    private static int makeRoom(Shelf s, boolean second) {
        if (s.line.size() + s.second.size() < s.c) {
            return NONE;
        }
        int once = s.line.size();
        boolean fromOnce = once > 0 && (once > s.target || second && once == s.target);
        if (fromOnce || s.second.isEmpty()) {
            int gone = s.line.remove(0).key;
            s.ghosts.add(gone);
            return gone;
        }
        int gone = s.second.remove(0).key;
        s.secondGhosts.add(gone);
        return gone;
    }

    private static int drop(Shelf s, int key) {
        int had = has(s, key);
        Item item = find(s, key);
        s.line.remove(item);
        s.second.remove(item);
        for (int i = 0; i < s.c; i++) {
            if (item != null && s.places[i] == item) {
                s.places[i] = null;
            }
        }
        s.ghosts.remove(Integer.valueOf(key));
        s.secondGhosts.remove(Integer.valueOf(key));
        return had;
    }

    /** Lets a key come to a copy, and sees who goes. */
    private static int victim(Shelf s) {
        int stranger = 0;
        while (has(s, stranger) != 0) {
            stranger++;
        }
        return put(copy(s), stranger, 0);
    }

    private static Shelf copy(Shelf s) {
        Shelf t = new Shelf();
        t.way = s.way;
        t.c = s.c;
        t.a = s.a;
        t.b = s.b;
        t.time = s.time;
        t.hand = s.hand;
        t.target = s.target;
        t.places = new Item[s.c];
        for (int i = 0; i < s.c; i++) {
            t.places[i] = s.places[i] == null ? null : copy(s.places[i]);
        }
        s.line.forEach(item -> t.line.add(copy(item)));
        s.second.forEach(item -> t.second.add(copy(item)));
        t.ghosts.addAll(s.ghosts);
        t.secondGhosts.addAll(s.secondGhosts);
        return t;
    }

    private static Item copy(Item item) {
        Item other = new Item(item.key);
        other.value = item.value;
        other.came = item.came;
        other.used = item.used;
        other.count = item.count;
        other.mark = item.mark;
        return other;
    }

    private static List<Integer> keys(List<Item> items) {
        List<Integer> keys = new ArrayList<>();
        items.forEach(item -> keys.add(item == null ? NONE : item.key));
        return keys;
    }

    private static int list(Shelf s, int list, int i) {
        List<List<Integer>> lists = switch (s.way) {
            case 3 -> List.of(keys(Arrays.asList(s.places)));
            case 4 -> List.of(keys(s.line), keys(s.second), s.ghosts);
            case 5 -> List.of(keys(s.line), keys(s.second), s.ghosts, s.secondGhosts);
            default -> List.of(keys(orderOfGoing(s)));
        };
        demand(list >= 0 && list < lists.size());
        List<Integer> asked = lists.get(list);
        return i >= 0 && i < asked.size() ? asked.get(i) : NONE;
    }

    private static int told(Shelf s, int what) {
        demand(what >= 0 && what <= 7);
        return new int[] {s.way, s.c, held(s).size(), s.ghosts.size() + s.secondGhosts.size(),
            s.hits, s.misses, s.went, s.way == 3 ? s.hand : s.target}[what];
    }

    private int use(int key) {
        if (row.size() == 300) {
            throw new IllegalStateException();
        }
        row.add(key);
        int bits = 0;
        for (int i = 0; i < shelves.size(); i++) {
            try {
                get(shelves.get(i), key);
                bits |= 1 << i;
            } catch (NoSuchElementException e) {
                put(shelves.get(i), key, row.size());
            }
        }
        return bits;
    }

    private int clear() {
        int had = row.size();
        row.clear();
        return had;
    }

    private int distance(int i) {
        demand(i >= 0 && i < row.size());
        int last = row.subList(0, i).lastIndexOf(row.get(i));
        return last < 0 ? NONE : new HashSet<>(row.subList(last + 1, i)).size();
    }

    private int curve(int capacity) {
        int sum = 0;
        for (int i = 0; i < row.size(); i++) {
            int distance = distance(i);
            if (distance == NONE || distance >= capacity) {
                sum++;
            }
        }
        return sum;
    }

    private int optimum(int capacity) {
        Set<Integer> held = new HashSet<>();
        int misses = 0;
        for (int i = 0; i < row.size(); i++) {
            if (held.contains(row.get(i))) {
                continue;
            }
            misses++;
            if (held.size() == capacity) {
                held.remove(usedLatestBehind(held, i));
            }
            held.add(row.get(i));
        }
        return misses;
    }

    private Integer usedLatestBehind(Set<Integer> held, int i) {
        List<Integer> coming = row.subList(i + 1, row.size());
        Integer latest = null;
        int latestUse = -1;
        for (Integer key : held) {
            int next = coming.indexOf(key);
            int use = next < 0 ? Integer.MAX_VALUE : next;
            if (use > latestUse) {
                latest = key;
                latestUse = use;
            }
        }
        return latest;
    }

    private int count(int what) {
        demand(what >= 0 && what <= 2);
        return new int[] {shelves.size(), row.size(), new HashSet<>(row).size()}[what];
    }
}
