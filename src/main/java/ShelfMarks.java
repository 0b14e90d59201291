/**
 * An archive in which folders stand in an order, and each has a mark from which the order can be
 * told without walking along: of two folders the one that stands ahead has the lower mark.
 */
public final class ShelfMarks {
    private static final int FOLDERS_IN_ALL = 200;
    private static final int FOLDERS_AT_A_TIME = 60;
    private static final int MARKS = 256;
    private static final int READERS = 4;
    private static final int NONE = -1;

    /** From how many folders on a shelf is loaded, by its level. */
    private static final int[] LOADED_FROM = {1, 2, 3, 5, 8, 14, 24, 42, 73};

    /** The folders in their order; the places from count on mean nothing. */
    private final int[] folders = new int[FOLDERS_AT_A_TIME];
    /** The mark of the folder that stands at the same place of the row of folders. */
    private final int[] marks = new int[FOLDERS_AT_A_TIME];
    private int count;
    private int came;

    private int moves;
    private final int[] spreads = new int[LOADED_FROM.length];

    private final int[] readerFolders = new int[READERS];
    private final int[] readerCounts = new int[READERS];

    public ShelfMarks() {
        for (int reader = 0; reader < READERS; reader++) {
            readerFolders[reader] = NONE;
        }
    }

    // ---- folders come, go, and change their places.

    public int putFirst() throws IllegalStateException {
        requireThatOneMayCome();
        int newOne = nextNumber();
        putIn(newOne, 0);
        return newOne;
    }

    public int putBehind(int folder) throws IndexOutOfBoundsException, IllegalStateException {
        int place = requirePlace(folder);
        requireThatOneMayCome();
        int newOne = nextNumber();
        putIn(newOne, place + 1);
        return newOne;
    }

    public int takeOut(int folder) throws IndexOutOfBoundsException {
        int place = requirePlace(folder);
        sendReadersOn(folder, folderAt(place + 1));
        removeAt(place);
        return count;
    }

    public int carry(int folder, int other) throws IndexOutOfBoundsException, IllegalArgumentException {
        int place = requirePlace(folder);
        requirePlace(other);
        if (folder == other) {
            throw new IllegalArgumentException("a folder can't come behind itself");
        }
        removeAt(place);
        putIn(folder, placeOf(other) + 1);
        return markAt(placeOf(folder));
    }

    // ---- the order.

    public int size() {
        return count;
    }

    public int first() {
        return folderAt(0);
    }

    public int next(int folder) throws IndexOutOfBoundsException {
        return folderAt(requirePlace(folder) + 1);
    }

    public int previous(int folder) throws IndexOutOfBoundsException {
        return folderAt(requirePlace(folder) - 1);
    }

    public boolean has(int folder) {
        return placeOf(folder) != NONE;
    }

    public int mark(int folder) throws IndexOutOfBoundsException {
        return markAt(requirePlace(folder));
    }

    public int ahead(int folder) throws IndexOutOfBoundsException {
        return marksBelow(markAt(requirePlace(folder)));
    }

    public int from(int mark) {
        return folderAt(marksBelow(mark));
    }

    // ---- marks, shelves.

    public int gapBehind(int folder) throws IndexOutOfBoundsException {
        int place = requirePlace(folder);
        return markAt(place + 1) - markAt(place) - 1;
    }

    public int load(int level, int shelf) throws IndexOutOfBoundsException {
        requireLevel(level);
        if (shelf < 0 || shelf >= shelvesOf(level)) {
            throw new IndexOutOfBoundsException("no such shelf");
        }
        return foldersOn(level, shelf);
    }

    public int loaded(int level) throws IndexOutOfBoundsException {
        requireLevel(level);
        int found = 0;
        for (int place = 0; place < count; place++) {
            int shelf = markAt(place) >> level;
            // A shelf is looked at once, at its first folder; one without folders is never loaded.
            boolean isNewShelf = shelf != markAt(place - 1) >> level;
            if (isNewShelf && isLoaded(level, shelf)) {
                found++;
            }
        }
        return found;
    }

    public int wouldMove(int folder) throws IndexOutOfBoundsException {
        return movesByPuttingIn(requirePlace(folder) + 1);
    }

    public int moved() {
        return moves;
    }

    public int spread(int level) throws IndexOutOfBoundsException {
        requireLevel(level);
        return spreads[level];
    }

    // ---- readers.

    public int seat(int reader, int folder) throws IndexOutOfBoundsException {
        requireReader(reader);
        requirePlace(folder);
        readerFolders[reader] = folder;
        return readersAt(folder);
    }

    public int passDay() {
        int left = 0;
        for (int reader = 0; reader < READERS; reader++) {
            int place = placeOf(readerFolders[reader]);
            if (place != NONE) {
                readerCounts[reader]++;
                readerFolders[reader] = folderAt(place + 1);
            }
            if (readerFolders[reader] != NONE) {
                left++;
            }
        }
        return left;
    }

    public int at(int reader) throws IndexOutOfBoundsException {
        requireReader(reader);
        return readerFolders[reader];
    }

    public int read(int reader) throws IndexOutOfBoundsException {
        requireReader(reader);
        return readerCounts[reader];
    }

    public int daysTo(int reader, int other) throws IndexOutOfBoundsException {
        requireReader(reader);
        requireReader(other);
        int start = placeOf(readerFolders[reader]);
        int goal = placeOf(readerFolders[other]);
        // Days lead to the end alone, so that a folder further ahead is never reached.
        return start == NONE || goal < start ? NONE : goal - start;
    }

    // What a call asks for, or its exception.

    private int requirePlace(int folder) {
        int place = placeOf(folder);
        if (place == NONE) {
            throw new IndexOutOfBoundsException("the folder is not in the archive");
        }
        return place;
    }

    private void requireThatOneMayCome() {
        if (came >= FOLDERS_IN_ALL || count >= FOLDERS_AT_A_TIME) {
            throw new IllegalStateException("no more folders can come");
        }
    }

    private static void requireLevel(int level) {
        if (level < 0 || level >= LOADED_FROM.length) {
            throw new IndexOutOfBoundsException("no such level");
        }
    }

    private static void requireReader(int reader) {
        if (reader < 0 || reader >= READERS) {
            throw new IndexOutOfBoundsException("no such reader");
        }
    }

    // The row of folders. Places outside it may be asked for: the ends of the row are told by that.

    private boolean isPlace(int place) {
        return place >= 0 && place < count && place < folders.length && place < marks.length;
    }

    private int placeOf(int folder) {
        for (int place = 0; place < count && place < folders.length; place++) {
            if (folders[place] == folder) {
                return place;
            }
        }
        return NONE;
    }

    private int folderAt(int place) {
        return isPlace(place) ? folders[place] : NONE;
    }

    /** The mark at a place: ahead of the first folder -1, behind the last one 256. */
    private int markAt(int place) {
        if (place < 0) {
            return -1;
        }
        return isPlace(place) ? marks[place] : MARKS;
    }

    private void set(int place, int folder, int mark) {
        if (isPlace(place)) {
            folders[place] = folder;
            marks[place] = mark;
        }
    }

    private void insertAt(int place, int folder, int mark) {
        if (place < 0 || place > count || count >= FOLDERS_AT_A_TIME) {
            return;
        }
        count++;
        for (int to = count - 1; to > place; to--) {
            set(to, folderAt(to - 1), markAt(to - 1));
        }
        set(place, folder, mark);
    }

    private void removeAt(int place) {
        if (!isPlace(place)) {
            return;
        }
        for (int to = place; to < count - 1; to++) {
            set(to, folderAt(to + 1), markAt(to + 1));
        }
        count--;
    }

    /** How many folders have a mark below this one, which is also the place of the first other one. */
    private int marksBelow(int mark) {
        int place = 0;
        while (place < count && place < marks.length && marks[place] < mark) {
            place++;
        }
        return place;
    }

    // Putting a folder in.

    private int nextNumber() {
        int number = came;
        came++;
        return number;
    }

    private void putIn(int folder, int place) {
        // The moves are told by the marks as they are ahead of the change.
        moves += movesByPuttingIn(place);
        if (hasFreeMark(place)) {
            insertAt(place, folder, (markAt(place - 1) + markAt(place)) / 2);
        } else {
            spreadOut(folder, place);
        }
    }

    private boolean hasFreeMark(int place) {
        return markAt(place) - markAt(place - 1) >= 2;
    }

    private void spreadOut(int folder, int place) {
        int level = levelToSpread(place);
        int shelf = shelfToSpread(place, level);
        int begin = marksBelow(firstMark(level, shelf));
        int together = foldersOn(level, shelf) + 1;
        insertAt(place, folder, firstMark(level, shelf));
        for (int i = 0; i < together; i++) {
            set(begin + i, folderAt(begin + i), spreadMark(level, shelf, i, together));
        }
        countSpread(level);
    }

    private int movesByPuttingIn(int place) {
        if (hasFreeMark(place)) {
            return 0;
        }
        int level = levelToSpread(place);
        int shelf = shelfToSpread(place, level);
        int begin = marksBelow(firstMark(level, shelf));
        int others = foldersOn(level, shelf);
        int found = 0;
        for (int old = begin; old < begin + others; old++) {
            int i = (old < place ? old : old + 1) - begin;
            if (markAt(old) != spreadMark(level, shelf, i, others + 1)) {
                found++;
            }
        }
        return found;
    }

    private int levelToSpread(int place) {
        int highest = LOADED_FROM.length - 1;
        int level = 1;
        while (level < highest && isLoaded(level, shelfToSpread(place, level))) {
            level++;
        }
        return level;
    }

    private int shelfToSpread(int place, int level) {
        return Math.max(markAt(place - 1), 0) >> level;
    }

    private static int spreadMark(int level, int shelf, int i, int together) {
        int way = together > 0 ? i * shelfSize(level) / together : 0;
        return firstMark(level, shelf) + way;
    }

    private void countSpread(int level) {
        if (level >= 0 && level < spreads.length) {
            spreads[level]++;
        }
    }

    // Shelves.

    private static int shelfSize(int level) {
        return 1 << level;
    }

    private static int shelvesOf(int level) {
        return MARKS >> level;
    }

    private static int firstMark(int level, int shelf) {
        return shelf << level;
    }

    private int foldersOn(int level, int shelf) {
        return marksBelow(firstMark(level, shelf + 1)) - marksBelow(firstMark(level, shelf));
    }

    private boolean isLoaded(int level, int shelf) {
        return level >= 0 && level < LOADED_FROM.length && foldersOn(level, shelf) >= LOADED_FROM[level];
    }

    // Readers.

    private int readersAt(int folder) {
        int found = 0;
        for (int reader = 0; reader < READERS; reader++) {
            if (readerFolders[reader] == folder) {
                found++;
            }
        }
        return found;
    }

    private void sendReadersOn(int folder, int nextFolder) {
        for (int reader = 0; reader < READERS; reader++) {
            if (readerFolders[reader] == folder) {
                readerFolders[reader] = nextFolder;
            }
        }
    }
}
