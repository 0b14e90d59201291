import java.util.ArrayList;
import java.util.HashMap;
import java.util.List;
import java.util.Map;
import java.util.TreeMap;

/** The document retold in the slowest and plainest way, to compare the class with; shares no code with it. */
final class Model {
    private static final int[] THRESHOLDS = {1, 2, 3, 5, 8, 14, 24, 42, 73};

    private final List<Integer> order = new ArrayList<>();
    private final Map<Integer, Integer> markOf = new HashMap<>();
    private final Integer[] seats = new Integer[4];
    private final int[] reads = new int[4];
    private final int[] spreads = new int[9];
    private int came;
    private int moved;

    private Model copy() {
        Model other = new Model();
        other.order.addAll(order);
        other.markOf.putAll(markOf);
        other.moved = moved;
        return other;
    }

    private void known(int folder) {
        if (!order.contains(folder)) {
            throw new IndexOutOfBoundsException();
        }
    }

    private static void within(int number, int end) {
        if (number < 0 || number >= end) {
            throw new IndexOutOfBoundsException();
        }
    }

    private void roomForOne() {
        if (came == 200 || order.size() == 60) {
            throw new IllegalStateException();
        }
    }

    private void put(int folder, int index) {
        int a = index == 0 ? -1 : markOf.get(order.get(index - 1));
        int b = index == order.size() ? 256 : markOf.get(order.get(index));
        order.add(index, folder);
        if (b >= a + 2) {
            markOf.put(folder, (a + b) / 2);
            return;
        }
        int home = a == -1 ? 0 : a;
        for (int level = 1; level <= 8; level++) {
            int marks = (int) Math.pow(2, level);
            int start = home / marks * marks;
            List<Integer> those = new ArrayList<>();
            for (Integer one : order) {
                if (one == folder || markOf.get(one) >= start && markOf.get(one) < start + marks) {
                    those.add(one);
                }
            }
            if (those.size() - 1 >= THRESHOLDS[level]) {
                continue;
            }
            for (int i = 0; i < those.size(); i++) {
                Integer before = markOf.put(those.get(i), start + i * marks / those.size());
                if (before != null && before != start + i * marks / those.size()) {
                    moved++;
                }
            }
            spreads[level]++;
            return;
        }
        throw new AssertionError("every shelf is loaded");
    }

    boolean allCame() {
        return came == 200;
    }

    int putFirst() {
        roomForOne();
        put(came, 0);
        return came++;
    }

    int putBehind(int folder) {
        known(folder);
        roomForOne();
        put(came, order.indexOf(folder) + 1);
        return came++;
    }

    int takeOut(int folder) {
        known(folder);
        int after = next(folder);
        for (int reader = 0; reader < 4; reader++) {
            if (seats[reader] != null && seats[reader] == folder) {
                seats[reader] = after == -1 ? null : after;
            }
        }
        order.remove(Integer.valueOf(folder));
        markOf.remove(folder);
        return order.size();
    }

    int carry(int folder, int other) {
        known(folder);
        known(other);
        if (folder == other) {
            throw new IllegalArgumentException();
        }
        order.remove(Integer.valueOf(folder));
        markOf.remove(folder);
        put(folder, order.indexOf(other) + 1);
        return markOf.get(folder);
    }

    int size() {
        return order.size();
    }

    int first() {
        return order.isEmpty() ? -1 : order.get(0);
    }

    int next(int folder) {
        known(folder);
        int index = order.indexOf(folder) + 1;
        return index == order.size() ? -1 : order.get(index);
    }

    int previous(int folder) {
        known(folder);
        int index = order.indexOf(folder);
        return index == 0 ? -1 : order.get(index - 1);
    }

    int has(int folder) {
        return markOf.containsKey(folder) ? 1 : 0;
    }

    int mark(int folder) {
        known(folder);
        return markOf.get(folder);
    }

    int ahead(int folder) {
        known(folder);
        return order.indexOf(folder);
    }

    int from(int mark) {
        TreeMap<Integer, Integer> byMark = new TreeMap<>();
        for (Integer one : order) {
            byMark.put(markOf.get(one), one);
        }
        Map.Entry<Integer, Integer> found = byMark.ceilingEntry(mark);
        return found == null ? -1 : found.getValue();
    }

    int gapBehind(int folder) {
        known(folder);
        int free = 0;
        int mark = markOf.get(folder) + 1;
        while (mark < 256 && !markOf.containsValue(mark)) {
            free++;
            mark++;
        }
        return free;
    }

    int load(int level, int shelf) {
        within(level, 9);
        int marks = (int) Math.pow(2, level);
        within(shelf, 256 / marks);
        int found = 0;
        for (Integer one : order) {
            if (markOf.get(one) / marks == shelf) {
                found++;
            }
        }
        return found;
    }

    int loaded(int level) {
        within(level, 9);
        int found = 0;
        for (int shelf = 0; shelf < 256 / (int) Math.pow(2, level); shelf++) {
            if (load(level, shelf) >= THRESHOLDS[level]) {
                found++;
            }
        }
        return found;
    }

    int wouldMove(int folder) {
        known(folder);
        Model other = copy();
        other.put(200, order.indexOf(folder) + 1);
        return other.moved - moved;
    }

    int moved() {
        return moved;
    }

    int spread(int level) {
        within(level, 9);
        return spreads[level];
    }

    int seat(int reader, int folder) {
        within(reader, 4);
        known(folder);
        seats[reader] = folder;
        int found = 0;
        for (Integer seat : seats) {
            if (seat != null && seat == folder) {
                found++;
            }
        }
        return found;
    }

    int passDay() {
        int left = 0;
        for (int reader = 0; reader < 4; reader++) {
            if (seats[reader] == null) {
                continue;
            }
            reads[reader]++;
            int after = next(seats[reader]);
            seats[reader] = after == -1 ? null : after;
            left += after == -1 ? 0 : 1;
        }
        return left;
    }

    int at(int reader) {
        within(reader, 4);
        return seats[reader] == null ? -1 : seats[reader];
    }

    int read(int reader) {
        within(reader, 4);
        return reads[reader];
    }

    int daysTo(int reader, int other) {
        within(reader, 4);
        within(other, 4);
        if (seats[reader] == null || seats[other] == null) {
            return -1;
        }
        int days = 0;
        int folder = seats[reader];
        while (folder != -1) {
            if (folder == seats[other]) {
                return days;
            }
            folder = next(folder);
            days++;
        }
        return -1;
    }
}
