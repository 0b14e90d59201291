import java.util.ArrayList;
import java.util.List;

/**
 * An archive whose shelves 0 are filled up step by step, only where a mark is free; it reckons the marks
 * by itself, so that it needs no calls to know them.
 */
final class Crowd {
    static final int[] LOADED_FROM = {1, 2, 3, 5, 8, 14, 24, 42, 73};

    final Archive archive;
    private final List<Integer> folders = new ArrayList<>();
    private final List<Integer> marks = new ArrayList<>();

    /** It begins with the marks 0 1 3 7 15 31 63 127: the shelf 0 of a level k has k + 1 folders. */
    Crowd(Trial trial) {
        archive = trial.allPutFirst(8);
        for (int folder = 7; folder >= 0; folder--) {
            folders.add(folder);
            marks.add((1 << (7 - folder)) - 1);
        }
    }

    int size() {
        return folders.size();
    }

    int folderAt(int place) {
        return folders.get(place);
    }

    private int below(int mark) {
        int found = 0;
        while (found < marks.size() && marks.get(found) < mark) {
            found++;
        }
        return found;
    }

    private int markBehind(int place) {
        return place + 1 < marks.size() ? marks.get(place + 1) : 256;
    }

    private int halfBehind(int place) {
        return (marks.get(place) + markBehind(place)) / 2;
    }

    private int gapBehind(int place) {
        return markBehind(place) - marks.get(place);
    }

    /** Puts folders in where the gaps are widest, until so many have marks below this one. */
    void fill(int mark, int due) {
        while (below(mark) < due) {
            int widest = -1;
            for (int place = 0; place < size(); place++) {
                boolean fits = gapBehind(place) >= 2 && halfBehind(place) < mark;
                if (fits && (widest == -1 || gapBehind(place) > gapBehind(widest))) {
                    widest = place;
                }
            }
            int newMark = halfBehind(widest);
            folders.add(widest + 1, archive.putBehind(folderAt(widest)));
            marks.add(widest + 1, newMark);
        }
    }

    private void takeOut(int mark) {
        int place = marks.indexOf(mark);
        archive.takeOut(folderAt(place));
        folders.remove(place);
        marks.remove(place);
    }

    /** The shelf 0 of a level has so many folders then, or one less than it began with. */
    void haveOn(int level, int due) {
        int end = 1 << level;
        if (below(end) > due) {
            takeOut(end - 1);
        }
        fill(end, due);
    }

    /** The shelf 0 of each level up to this one is loaded then, and no more than that. */
    void loadUpTo(int level) {
        for (int each = 3; each <= level; each++) {
            fill(1 << each, LOADED_FROM[each]);
        }
    }

    /** How many folders get another mark, if all are spread out over 256 marks with a new one at a place. */
    int movesOverAll(int newPlace) {
        int found = 0;
        for (int place = 0; place < size(); place++) {
            int i = place < newPlace ? place : place + 1;
            found += marks.get(place) != i * 256 / (size() + 1) ? 1 : 0;
        }
        return found;
    }
}
