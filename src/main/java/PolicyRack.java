import java.util.Arrays;
import java.util.NoSuchElementException;

/**
 * A rack of up to eight caches, each with its own way to choose what goes, and one row of uses
 * that all of them serve.
 */
public final class PolicyRack {
    public static final int NONE = -1;

    private static final int KEYS = 512;
    private static final int MOST_CAPACITY = 64;
    private static final int MOST_GHOSTS = 64;
    private static final int MOST_SHELVES = 8;
    private static final int MOST_USES = 300;

    private static final int FIRST = 0;
    private static final int LATELY = 1;
    private static final int OFTEN = 2;
    private static final int CLOCK = 3;
    private static final int QUEUES = 4;
    private static final int LISTS = 5;

    private static final int HELD = 2;
    private static final int GHOST = 1;
    private static final int UNKNOWN = 0;

    private static final int LAST_TOLD = 7;

    private final Shelf[] shelves = new Shelf[MOST_SHELVES];
    private final UseRow row = new UseRow();
    private int shelfCount;

    public PolicyRack() {
    }

    public int shelf(int way, int capacity, int a, int b)
            throws IllegalArgumentException, IllegalStateException {
        if (way < FIRST || way > LISTS) {
            throw new IllegalArgumentException("no such way");
        }
        checkCapacity(capacity);
        if (way == QUEUES && (a < 1 || a > capacity || b < 1 || b > MOST_GHOSTS)) {
            throw new IllegalArgumentException("no such a or b");
        }
        if (shelfCount >= MOST_SHELVES) {
            throw new IllegalStateException("the rack is full");
        }
        shelves[shelfCount] = newShelf(way, capacity, a, b);
        shelfCount++;
        return shelfCount - 1;
    }

    public int get(int shelf, int key) throws IllegalArgumentException, NoSuchElementException {
        Shelf asked = shelfAt(shelf);
        checkKey(key);
        if (!asked.fetch(key)) {
            throw new NoSuchElementException("a miss");
        }
        return asked.valueOf(key);
    }

    public int put(int shelf, int key, int value) throws IllegalArgumentException {
        Shelf asked = shelfAt(shelf);
        checkKey(key);
        return asked.store(key, value);
    }

    public int drop(int shelf, int key) throws IllegalArgumentException {
        Shelf asked = shelfAt(shelf);
        checkKey(key);
        int standing = asked.standingOf(key);
        if (standing != UNKNOWN) {
            asked.takeOut(key);
        }
        return standing;
    }

    public int has(int shelf, int key) throws IllegalArgumentException {
        Shelf asked = shelfAt(shelf);
        checkKey(key);
        return asked.standingOf(key);
    }

    public int victim(int shelf) throws IllegalArgumentException {
        return shelfAt(shelf).nextToGo();
    }

    public int list(int shelf, int list, int i) throws IllegalArgumentException {
        Shelf asked = shelfAt(shelf);
        if (list < 0 || list >= asked.listCount()) {
            throw new IllegalArgumentException("no such list");
        }
        return asked.keyAt(list, i);
    }

    public int told(int shelf, int what) throws IllegalArgumentException {
        Shelf asked = shelfAt(shelf);
        if (what < 0 || what > LAST_TOLD) {
            throw new IllegalArgumentException("no such number");
        }
        return asked.tell(what);
    }

    public int use(int key) throws IllegalArgumentException, IllegalStateException {
        checkKey(key);
        if (row.isFull()) {
            throw new IllegalStateException("the row is full");
        }
        row.add(key);
        int hits = 0;
        for (int i = 0; i < MOST_SHELVES; i++) {
            Shelf asked = shelves[i];
            if (asked == null) {
                break;
            }
            if (asked.fetch(key)) {
                hits |= 1 << i;
            } else {
                asked.store(key, row.size());
            }
        }
        return hits;
    }

    public int clear() {
        int had = row.size();
        row.empty();
        return had;
    }

    public int distance(int i) throws IllegalArgumentException {
        if (i < 0 || i >= row.size()) {
            throw new IllegalArgumentException("no such use");
        }
        return row.distanceAt(i);
    }

    public int curve(int capacity) throws IllegalArgumentException {
        checkCapacity(capacity);
        return row.usesNotWithin(capacity);
    }

    public int optimum(int capacity) throws IllegalArgumentException {
        checkCapacity(capacity);
        return row.fewestMisses(capacity);
    }

    public int count(int what) throws IllegalArgumentException {
        switch (what) {
            case 0:
                return shelfCount;
            case 1:
                return row.size();
            case 2:
                return row.differentKeys();
            default:
                throw new IllegalArgumentException("no such number");
        }
    }

    private static Shelf newShelf(int way, int capacity, int a, int b) {
        switch (way) {
            case FIRST:
                return new FirstShelf(FIRST, capacity);
            case LATELY:
                return new LatelyShelf(capacity);
            case OFTEN:
                return new OftenShelf(capacity);
            case CLOCK:
                return new ClockShelf(capacity);
            case QUEUES:
                return new QueuesShelf(capacity, a, b);
            default:
                return new ListsShelf(capacity);
        }
    }

    private Shelf shelfAt(int i) {
        if (i < 0 || i >= MOST_SHELVES || shelves[i] == null) {
            throw new IllegalArgumentException("no such shelf");
        }
        return shelves[i];
    }

    private static void checkKey(int key) {
        if (key < 0 || key >= KEYS) {
            throw new IllegalArgumentException("no such key");
        }
    }

    private static void checkCapacity(int capacity) {
        if (capacity < 1 || capacity > MOST_CAPACITY) {
            throw new IllegalArgumentException("no such capacity");
        }
    }

    /** Different keys in an order, the first one at 0. */
    private static final class KeyLine {
        private final int[] keys;
        private int size;

        KeyLine(int room) {
            keys = new int[room];
        }

        int size() {
            return size;
        }

        int keyAt(int i) {
            return i >= 0 && i < size ? keys[i] : NONE;
        }

        int placeOf(int key) {
            for (int i = 0; i < size; i++) {
                if (keys[i] == key) {
                    return i;
                }
            }
            return NONE;
        }

        void insert(int place, int key) {
            if (size < keys.length && place >= 0 && place <= size) {
                System.arraycopy(keys, place, keys, place + 1, size - place);
                keys[place] = key;
                size++;
            }
        }

        void append(int key) {
            insert(size, key);
        }

        boolean remove(int key) {
            int place = placeOf(key);
            removeAt(place);
            return place != NONE;
        }

        int takeFirst() {
            int first = keyAt(0);
            removeAt(0);
            return first;
        }

        private void removeAt(int place) {
            if (place >= 0 && place < size) {
                System.arraycopy(keys, place + 1, keys, place, size - place - 1);
                size--;
            }
        }

        void empty() {
            size = 0;
        }
    }

    /** What all ways have in common: values, counters, and what GET and PUT are. */
    private abstract static class Shelf {
        final int capacity;
        private final int way;
        // By key, so that a key that changes its list keeps its value where it is.
        private final int[] values = new int[KEYS];
        private int hits;
        private int misses;
        private int went;

        Shelf(int way, int capacity) {
            this.way = way;
            this.capacity = capacity;
        }

        abstract int standingOf(int key);

        abstract void markUsed(int key);

        /** Lets in a key that is not held; answers the key that goes for it, or NONE. */
        abstract int admit(int key);

        abstract void takeOut(int key);

        abstract int nextToGo();

        abstract int listCount();

        abstract int keyAt(int list, int i);

        abstract int heldCount();

        abstract int ghostCount();

        /** The hand or the target, of ways that have one. */
        int pointer() {
            return 0;
        }

        final boolean isFull() {
            return heldCount() >= capacity;
        }

        final int valueOf(int key) {
            return values[key];
        }

        final boolean fetch(int key) {
            if (standingOf(key) != HELD) {
                misses++;
                return false;
            }
            hits++;
            markUsed(key);
            return true;
        }

        final int store(int key, int value) {
            values[key] = value;
            if (standingOf(key) == HELD) {
                markUsed(key);
                return NONE;
            }
            int gone = admit(key);
            if (gone != NONE) {
                went++;
            }
            return gone;
        }

        final int tell(int what) {
            switch (what) {
                case 0:
                    return way;
                case 1:
                    return capacity;
                case 2:
                    return heldCount();
                case 3:
                    return ghostCount();
                case 4:
                    return hits;
                case 5:
                    return misses;
                case 6:
                    return went;
                default:
                    return pointer();
            }
        }
    }

    /** A shelf whose lists are lines of keys: first those that it holds, behind them the ghosts. */
    private abstract static class LineShelf extends Shelf {
        final KeyLine[] lines;
        private final int heldLines;

        LineShelf(int way, int capacity, KeyLine[] lines, int heldLines) {
            super(way, capacity);
            this.lines = lines;
            this.heldLines = heldLines;
        }

        final int standingOf(int key) {
            for (int i = 0; i < lines.length; i++) {
                if (lines[i].placeOf(key) != NONE) {
                    return i < heldLines ? HELD : GHOST;
                }
            }
            return UNKNOWN;
        }

        final void takeOut(int key) {
            for (int i = 0; i < lines.length; i++) {
                lines[i].remove(key);
            }
        }

        final int listCount() {
            return lines.length;
        }

        final int keyAt(int list, int i) {
            return list >= 0 && list < lines.length ? lines[list].keyAt(i) : NONE;
        }

        final int heldCount() {
            int sum = 0;
            for (int i = 0; i < heldLines; i++) {
                sum += lines[i].size();
            }
            return sum;
        }

        final int ghostCount() {
            int sum = 0;
            for (int i = heldLines; i < lines.length; i++) {
                sum += lines[i].size();
            }
            return sum;
        }
    }

    /** FIRST; and the ways that differ from it only in the order of their one line. */
    private static class FirstShelf extends LineShelf {
        final KeyLine line;

        FirstShelf(int way, int capacity) {
            super(way, capacity, new KeyLine[] {new KeyLine(capacity)}, 1);
            line = lines[0];
        }

        void markUsed(int key) {
            // Those that came first go first, used or not.
        }

        void lineUp(int key) {
            line.append(key);
        }

        final int admit(int key) {
            int gone = isFull() ? line.takeFirst() : NONE;
            lineUp(key);
            return gone;
        }

        final int nextToGo() {
            return isFull() ? line.keyAt(0) : NONE;
        }
    }

    private static final class LatelyShelf extends FirstShelf {
        LatelyShelf(int capacity) {
            super(LATELY, capacity);
        }

        void markUsed(int key) {
            line.remove(key);
            line.append(key);
        }
    }

    private static final class OftenShelf extends FirstShelf {
        private final int[] counts = new int[KEYS];

        OftenShelf(int capacity) {
            super(OFTEN, capacity);
        }

        void markUsed(int key) {
            line.remove(key);
            counts[key]++;
            insertByCount(key);
        }

        void lineUp(int key) {
            counts[key] = 1;
            insertByCount(key);
        }

        // Behind its equals: it is the one of them that was used last.
        private void insertByCount(int key) {
            int place = 0;
            while (place < line.size() && counts[line.keyAt(place)] <= counts[key]) {
                place++;
            }
            line.insert(place, key);
        }
    }

    private static final class ClockShelf extends Shelf {
        private final int[] places;
        private final boolean[] marks;
        private int hand;
        private int held;

        ClockShelf(int capacity) {
            super(CLOCK, capacity);
            places = new int[capacity];
            marks = new boolean[capacity];
            Arrays.fill(places, NONE);
        }

        int standingOf(int key) {
            return placeOf(key) != NONE ? HELD : UNKNOWN;
        }

        void markUsed(int key) {
            int place = placeOf(key);
            if (place != NONE) {
                marks[place] = true;
            }
        }

        int admit(int key) {
            int free = placeOf(NONE);
            if (free != NONE) {
                places[free] = key;
                held++;
                return NONE;
            }
            sweepToUnmarked();
            int gone = places[hand];
            places[hand] = key;
            hand = placeBehind(hand);
            return gone;
        }

        void takeOut(int key) {
            int place = placeOf(key);
            if (place != NONE) {
                places[place] = NONE;
                marks[place] = false;
                held--;
            }
        }

        int nextToGo() {
            if (!isFull()) {
                return NONE;
            }
            int place = hand;
            for (int step = 0; step < places.length && marks[place]; step++) {
                place = placeBehind(place);
            }
            return places[place];
        }

        int listCount() {
            return 1;
        }

        int keyAt(int list, int i) {
            return i >= 0 && i < places.length ? places[i] : NONE;
        }

        int heldCount() {
            return held;
        }

        int ghostCount() {
            return 0;
        }

        int pointer() {
            return hand;
        }

        private void sweepToUnmarked() {
            for (int step = 0; step < places.length && marks[hand]; step++) {
                marks[hand] = false;
                hand = placeBehind(hand);
            }
        }

        private int placeBehind(int place) {
            return place + 1 < places.length ? place + 1 : 0;
        }

        private int placeOf(int key) {
            for (int i = 0; i < places.length; i++) {
                if (places[i] == key) {
                    return i;
                }
            }
            return NONE;
        }
    }

    private static final class QueuesShelf extends LineShelf {
        private final KeyLine in;
        private final KeyLine main;
        private final KeyLine ghosts;
        private final int inLimit;
        private final int ghostLimit;

        QueuesShelf(int capacity, int inLimit, int ghostLimit) {
            super(QUEUES, capacity, new KeyLine[] {
                new KeyLine(capacity), new KeyLine(capacity), new KeyLine(ghostLimit)}, 2);
            in = lines[0];
            main = lines[1];
            ghosts = lines[2];
            this.inLimit = inLimit;
            this.ghostLimit = ghostLimit;
        }

        void markUsed(int key) {
            if (main.remove(key)) {
                main.append(key);
            }
        }

        int admit(int key) {
            boolean cameAgain = ghosts.remove(key);
            int gone = isFull() ? sendAway() : NONE;
            if (cameAgain) {
                main.append(key);
            } else {
                in.append(key);
            }
            return gone;
        }

        int nextToGo() {
            if (!isFull()) {
                return NONE;
            }
            return inGivesWay() ? in.keyAt(0) : main.keyAt(0);
        }

        private boolean inGivesWay() {
            return in.size() > inLimit || main.size() == 0;
        }

        private int sendAway() {
            if (!inGivesWay()) {
                return main.takeFirst();
            }
            int gone = in.takeFirst();
            if (ghosts.size() >= ghostLimit) {
                ghosts.takeFirst();
            }
            ghosts.append(gone);
            return gone;
        }
    }

    private static final class ListsShelf extends LineShelf {
        private final KeyLine once;
        private final KeyLine twice;
        private final KeyLine onceGhosts;
        private final KeyLine twiceGhosts;
        private int target;

        // No line outgrows the capacity: a ghost comes only when the shelf is full, and then all
        // four have room for no more than twice the capacity.
        ListsShelf(int capacity) {
            super(LISTS, capacity, new KeyLine[] {
                new KeyLine(capacity), new KeyLine(capacity),
                new KeyLine(capacity), new KeyLine(capacity)}, 2);
            once = lines[0];
            twice = lines[1];
            onceGhosts = lines[2];
            twiceGhosts = lines[3];
        }

        void markUsed(int key) {
            once.remove(key);
            twice.remove(key);
            twice.append(key);
        }

        int admit(int key) {
            int onceStep = step(twiceGhosts.size(), onceGhosts.size());
            int twiceStep = step(onceGhosts.size(), twiceGhosts.size());
            int gone;
            if (onceGhosts.remove(key)) {
                target = Math.min(capacity, target + onceStep);
                gone = makeRoom(false);
                twice.append(key);
            } else if (twiceGhosts.remove(key)) {
                target = Math.max(0, target - twiceStep);
                gone = makeRoom(true);
                twice.append(key);
            } else if (once.size() >= capacity) {
                gone = once.takeFirst();
                once.append(key);
            } else {
                forgetGhostForNew();
                gone = makeRoom(false);
                once.append(key);
            }
            return gone;
        }

        int nextToGo() {
            if (!isFull()) {
                return NONE;
            }
            return onceGivesWay(false) ? once.keyAt(0) : twice.keyAt(0);
        }

        int pointer() {
            return target;
        }

        private static int step(int others, int own) {
            return own > 0 ? Math.max(1, others / own) : 1;
        }

        private void forgetGhostForNew() {
            if (once.size() + onceGhosts.size() >= capacity) {
                onceGhosts.takeFirst();
            } else if (heldCount() + ghostCount() >= 2 * capacity) {
                twiceGhosts.takeFirst();
            }
        }

        private int makeRoom(boolean forGhostOfTwice) {
            if (!isFull()) {
                return NONE;
            }
            boolean fromOnce = onceGivesWay(forGhostOfTwice);
            int gone = fromOnce ? once.takeFirst() : twice.takeFirst();
            if (fromOnce) {
                onceGhosts.append(gone);
            } else {
                twiceGhosts.append(gone);
            }
            return gone;
        }

        private boolean onceGivesWay(boolean forGhostOfTwice) {
            if (once.size() == 0 || twice.size() == 0) {
                return twice.size() == 0;
            }
            return once.size() > target || forGhostOfTwice && once.size() == target;
        }
    }

    /** The row of uses, and what can be told of it without any shelf. */
    private static final class UseRow {
        // Behind every use that the row can have.
        private static final int NEVER = MOST_USES;

        private final int[] keys = new int[MOST_USES];
        private final int[] distances = new int[MOST_USES];
        private final int[] nextUses = new int[MOST_USES];
        private final KeyLine byLastUse = new KeyLine(MOST_USES);
        private final int[] awaited = new int[MOST_CAPACITY];
        private int size;

        int size() {
            return size;
        }

        boolean isFull() {
            return size >= MOST_USES;
        }

        int differentKeys() {
            return byLastUse.size();
        }

        int distanceAt(int i) {
            return i >= 0 && i < size ? distances[i] : NONE;
        }

        void empty() {
            size = 0;
            byLastUse.empty();
        }

        void add(int key) {
            if (isFull()) {
                return;
            }
            int place = byLastUse.placeOf(key);
            distances[size] = place == NONE ? NONE : byLastUse.size() - 1 - place;
            byLastUse.remove(key);
            byLastUse.append(key);
            int last = lastUseOf(key);
            if (last != NONE) {
                nextUses[last] = size;
            }
            keys[size] = key;
            nextUses[size] = NEVER;
            size++;
        }

        int usesNotWithin(int capacity) {
            int sum = 0;
            for (int i = 0; i < size; i++) {
                if (distances[i] == NONE || distances[i] >= capacity) {
                    sum++;
                }
            }
            return sum;
        }

        // The best cache lets go the key whose next use is farthest. A held key is known by
        // that next use alone, so use i is a hit just if some held key awaits i.
        int fewestMisses(int capacity) {
            int held = 0;
            int misses = 0;
            for (int i = 0; i < size; i++) {
                int slot = slotAwaiting(i, held);
                if (slot == NONE) {
                    misses++;
                    if (held < capacity) {
                        slot = held;
                        held++;
                    } else {
                        slot = slotAwaitingFarthest(held);
                    }
                }
                awaited[slot] = nextUses[i];
            }
            return misses;
        }

        private int lastUseOf(int key) {
            for (int i = size - 1; i >= 0; i--) {
                if (keys[i] == key) {
                    return i;
                }
            }
            return NONE;
        }

        private int slotAwaiting(int use, int held) {
            for (int i = 0; i < held; i++) {
                if (awaited[i] == use) {
                    return i;
                }
            }
            return NONE;
        }

        private int slotAwaitingFarthest(int held) {
            int farthest = 0;
            for (int i = 1; i < held; i++) {
                if (awaited[i] > awaited[farthest]) {
                    farthest = i;
                }
            }
            return farthest;
        }
    }
}
