import java.util.ArrayList;
import java.util.Arrays;
import java.util.HashMap;
import java.util.List;
import java.util.Map;
import java.util.TreeMap;

/**
 * The document retold in the slowest and plainest way, to compare the class with; shares no code with it.
 * Each rule of the document's terms is a method of its own, so that a test can break that rule alone.
 */
class Model implements Archive {
    static final int NONE = -1;
    /** Stands for the new folder of wouldMove; no folder of an archive has this number. */
    private static final int ONE_MORE = 200;

    final List<Integer> order = new ArrayList<>();
    final Map<Integer, Integer> markOf = new HashMap<>();
    final int[] seats = {NONE, NONE, NONE, NONE};
    final int[] reads = new int[4];
    final int[] spreads = new int[9];
    int came;
    int moved;

    // Limits.

    int inAll() {
        return 200;
    }

    int atATime() {
        return 60;
    }

    void roomForOne() {
        if (came >= inAll() || order.size() >= atATime()) {
            throw new IllegalStateException();
        }
    }

    final void known(int folder) {
        if (!order.contains(folder)) {
            throw new IndexOutOfBoundsException();
        }
    }

    static void within(int number, int end) {
        if (number < 0 || number >= end) {
            throw new IndexOutOfBoundsException();
        }
    }

    int newNumber() {
        return came;
    }

    // Shelves.

    static int marksOf(int level) {
        return (int) Math.pow(2, level);
    }

    int shelfOf(int mark, int level) {
        return mark / marksOf(level);
    }

    int threshold(int level) {
        return List.of(1, 2, 3, 5, 8, 14, 24, 42, 73).get(level);
    }

    boolean isLoaded(int level, int folders) {
        return folders >= threshold(level);
    }

    final int foldersOn(int level, int shelf) {
        int found = 0;
        for (int mark : markOf.values()) {
            found += shelfOf(mark, level) == shelf ? 1 : 0;
        }
        return found;
    }

    // Putting a folder in.

    int markAhead(int index) {
        return index == 0 ? -1 : markOf.get(order.get(index - 1));
    }

    int markBehind(int index) {
        return index == order.size() ? 256 : markOf.get(order.get(index));
    }

    boolean isFree(int a, int b) {
        return b >= a + 2;
    }

    int halfWay(int a, int b) {
        return (a + b) / 2;
    }

    /** The mark whose shelves are looked at. */
    int home(int a, int b) {
        return a == -1 ? 0 : a;
    }

    int levelFor(int home) {
        for (int level = 1; level <= 8; level++) {
            if (!isLoaded(level, foldersOn(level, shelfOf(home, level)))) {
                return level;
            }
        }
        throw new AssertionError("every shelf is loaded");
    }

    /** The folders of a shelf, with the new one, which has no mark yet. */
    List<Integer> together(int level, int shelf, int newOne) {
        List<Integer> those = new ArrayList<>();
        for (int one : order) {
            if (one == newOne || shelfOf(markOf.get(one), level) == shelf) {
                those.add(one);
            }
        }
        return those;
    }

    int spreadMark(int start, int marks, int i, int n) {
        return start + i * marks / n;
    }

    boolean isMove(Integer before, int after) {
        return before != null && before != after;
    }

    void put(int folder, int index) {
        int a = markAhead(index);
        int b = markBehind(index);
        order.add(index, folder);
        if (isFree(a, b)) {
            markOf.put(folder, halfWay(a, b));
            return;
        }
        int level = levelFor(home(a, b));
        int shelf = shelfOf(home(a, b), level);
        List<Integer> those = together(level, shelf, folder);
        for (int i = 0; i < those.size(); i++) {
            int after = spreadMark(shelf * marksOf(level), marksOf(level), i, those.size());
            Integer before = markOf.put(those.get(i), after);
            moved += isMove(before, after) ? 1 : 0;
        }
        spreads[level]++;
    }

    final void lift(int folder) {
        order.remove(Integer.valueOf(folder));
        markOf.remove(folder);
    }

    // Folders come, go, and change their places.

    @Override
    public int putFirst() {
        roomForOne();
        return comeAt(0);
    }

    @Override
    public int putBehind(int folder) {
        known(folder);
        roomForOne();
        return comeAt(order.indexOf(folder) + 1);
    }

    int comeAt(int index) {
        int number = newNumber();
        put(number, index);
        came++;
        return number;
    }

    @Override
    public int takeOut(int folder) {
        known(folder);
        int after = next(folder);
        for (int reader = 0; reader < 4; reader++) {
            if (seats[reader] == folder) {
                seats[reader] = after;
            }
        }
        lift(folder);
        return order.size();
    }

    @Override
    public int carry(int folder, int other) {
        known(folder);
        known(other);
        if (folder == other) {
            throw new IllegalArgumentException();
        }
        lift(folder);
        put(folder, order.indexOf(other) + 1);
        return markOf.get(folder);
    }

    // The order.

    @Override
    public int size() {
        return order.size();
    }

    @Override
    public int first() {
        return order.isEmpty() ? NONE : order.get(0);
    }

    @Override
    public int next(int folder) {
        known(folder);
        int index = order.indexOf(folder) + 1;
        return index == order.size() ? NONE : order.get(index);
    }

    @Override
    public int previous(int folder) {
        known(folder);
        int index = order.indexOf(folder);
        return index == 0 ? NONE : order.get(index - 1);
    }

    @Override
    public boolean has(int folder) {
        return markOf.containsKey(folder);
    }

    @Override
    public int mark(int folder) {
        known(folder);
        return markOf.get(folder);
    }

    @Override
    public int ahead(int folder) {
        known(folder);
        return order.indexOf(folder);
    }

    @Override
    public int from(int mark) {
        TreeMap<Integer, Integer> byMark = new TreeMap<>();
        for (int one : order) {
            byMark.put(markOf.get(one), one);
        }
        Map.Entry<Integer, Integer> found = byMark.ceilingEntry(mark);
        return found == null ? NONE : found.getValue();
    }

    // Marks, shelves.

    @Override
    public int gapBehind(int folder) {
        known(folder);
        int free = 0;
        int mark = markOf.get(folder) + 1;
        while (mark < 256 && !markOf.containsValue(mark)) {
            free++;
            mark++;
        }
        return free;
    }

    @Override
    public int load(int level, int shelf) {
        within(level, 9);
        within(shelf, 256 / marksOf(level));
        return foldersOn(level, shelf);
    }

    @Override
    public int loaded(int level) {
        within(level, 9);
        int found = 0;
        for (int shelf = 0; shelf < 256 / marksOf(level); shelf++) {
            found += isLoaded(level, foldersOn(level, shelf)) ? 1 : 0;
        }
        return found;
    }

    @Override
    public int wouldMove(int folder) {
        known(folder);
        List<Integer> orderNow = new ArrayList<>(order);
        Map<Integer, Integer> markOfNow = new HashMap<>(markOf);
        int[] spreadsNow = Arrays.copyOf(spreads, spreads.length);
        int movedNow = moved;
        put(ONE_MORE, order.indexOf(folder) + 1);
        int would = moved - movedNow;
        order.clear();
        order.addAll(orderNow);
        markOf.clear();
        markOf.putAll(markOfNow);
        System.arraycopy(spreadsNow, 0, spreads, 0, spreads.length);
        moved = movedNow;
        return would;
    }

    @Override
    public int moved() {
        return moved;
    }

    @Override
    public int spread(int level) {
        within(level, 9);
        return spreads[level];
    }

    // Readers.

    @Override
    public int seat(int reader, int folder) {
        within(reader, 4);
        known(folder);
        seats[reader] = folder;
        return readersAt(folder);
    }

    final int readersAt(int folder) {
        int found = 0;
        for (int seat : seats) {
            found += seat == folder ? 1 : 0;
        }
        return found;
    }

    @Override
    public int passDay() {
        int left = 0;
        for (int reader = 0; reader < 4; reader++) {
            if (seats[reader] == NONE) {
                continue;
            }
            reads[reader]++;
            seats[reader] = next(seats[reader]);
            left += seats[reader] == NONE ? 0 : 1;
        }
        return left;
    }

    @Override
    public int at(int reader) {
        within(reader, 4);
        return seats[reader];
    }

    @Override
    public int read(int reader) {
        within(reader, 4);
        return reads[reader];
    }

    @Override
    public int daysTo(int reader, int other) {
        within(reader, 4);
        within(other, 4);
        if (seats[reader] == NONE || seats[other] == NONE) {
            return NONE;
        }
        int days = 0;
        int folder = seats[reader];
        while (folder != NONE) {
            if (folder == seats[other]) {
                return days;
            }
            folder = next(folder);
            days++;
        }
        return NONE;
    }
}
