/** The document's face, so that a test can ask the class, the model, and a model that breaks one sentence. */
interface Archive {
    int putFirst();

    int putBehind(int folder);

    int takeOut(int folder);

    int carry(int folder, int other);

    int size();

    int first();

    int next(int folder);

    int previous(int folder);

    boolean has(int folder);

    int mark(int folder);

    int ahead(int folder);

    int from(int mark);

    int gapBehind(int folder);

    int load(int level, int shelf);

    int loaded(int level);

    int wouldMove(int folder);

    int moved();

    int spread(int level);

    int seat(int reader, int folder);

    int passDay();

    int at(int reader);

    int read(int reader);

    int daysTo(int reader, int other);
}
