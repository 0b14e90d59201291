/** The class under test. It stops a test that calls one object more often than the document tells of. */
final class Real implements Archive {
    static final int CALLS = 512;

    private final ShelfMarks marks = new ShelfMarks();
    private int calls;

    private ShelfMarks called() {
        calls++;
        if (calls > CALLS) {
            throw new AssertionError("the test itself is wrong: an object is called more than " + CALLS + " times");
        }
        return marks;
    }

    @Override
    public int putFirst() {
        return called().putFirst();
    }

    @Override
    public int putBehind(int folder) {
        return called().putBehind(folder);
    }

    @Override
    public int takeOut(int folder) {
        return called().takeOut(folder);
    }

    @Override
    public int carry(int folder, int other) {
        return called().carry(folder, other);
    }

    @Override
    public int size() {
        return called().size();
    }

    @Override
    public int first() {
        return called().first();
    }

    @Override
    public int next(int folder) {
        return called().next(folder);
    }

    @Override
    public int previous(int folder) {
        return called().previous(folder);
    }

    @Override
    public boolean has(int folder) {
        return called().has(folder);
    }

    @Override
    public int mark(int folder) {
        return called().mark(folder);
    }

    @Override
    public int ahead(int folder) {
        return called().ahead(folder);
    }

    @Override
    public int from(int mark) {
        return called().from(mark);
    }

    @Override
    public int gapBehind(int folder) {
        return called().gapBehind(folder);
    }

    @Override
    public int load(int level, int shelf) {
        return called().load(level, shelf);
    }

    @Override
    public int loaded(int level) {
        return called().loaded(level);
    }

    @Override
    public int wouldMove(int folder) {
        return called().wouldMove(folder);
    }

    @Override
    public int moved() {
        return called().moved();
    }

    @Override
    public int spread(int level) {
        return called().spread(level);
    }

    @Override
    public int seat(int reader, int folder) {
        return called().seat(reader, folder);
    }

    @Override
    public int passDay() {
        return called().passDay();
    }

    @Override
    public int at(int reader) {
        return called().at(reader);
    }

    @Override
    public int read(int reader) {
        return called().read(reader);
    }

    @Override
    public int daysTo(int reader, int other) {
        return called().daysTo(reader, other);
    }
}
