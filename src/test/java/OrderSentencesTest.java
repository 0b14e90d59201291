import java.util.Collections;
import java.util.List;

/** The sentences of the promises 1 to 13, but for what a call throws (ThrowsTest): the calls and the order. */
public final class OrderSentencesTest {
    private static final Sentences SENTENCES = new Sentences("OrderSentencesTest");

    public static void main(String[] args) {
        aNewObject();
        putFirst();
        putBehind();
        takeOut();
        carry();
        carryWithItsReaders();
        carriedMark();
        carryAsANewOne();
        sizeAndFirst();
        next();
        previous();
        hasAndMark();
        ahead();
        from();
        fromOutside();
        SENTENCES.end();
    }

    private static void aNewObject() {
        SENTENCES.holds("Promise 1: an archive without folders", OrderSentencesTest::withoutFolders,
                () -> {
                    Model model = new Model();
                    model.putFirst();
                    return model;
                },
                () -> {
                    Model model = new Model();
                    model.takeOut(model.putFirst());
                    return model;
                });
        SENTENCES.holds("Promise 1: no reader is there", OrderSentencesTest::noReader,
                () -> seated(0), () -> seated(3),
                () -> {
                    Model model = new Model();
                    model.reads[2] = 1;
                    return model;
                });
        SENTENCES.holds("Promise 1: nothing was moved or spread out so far", OrderSentencesTest::nothingMoved,
                () -> {
                    Model model = new Model();
                    model.moved = 1;
                    return model;
                },
                () -> {
                    Model model = new Model();
                    model.spreads[8] = 1;
                    return model;
                });
    }

    private static Model seated(int reader) {
        Model model = new Model();
        model.seats[reader] = 0;
        return model;
    }

    private static void withoutFolders(Trial t) {
        Archive x = t.fresh();
        t.same("size()", 0, x.size());
        t.same("first()", -1, x.first());
        t.no("has(0)", x.has(0));
        t.same("load(8, 0)", 0, x.load(8, 0));
        t.same("from(0)", -1, x.from(0));
        t.same("the first number", 0, x.putFirst());
    }

    private static void noReader(Trial t) {
        Archive x = t.fresh();
        for (int reader = 0; reader < 4; reader++) {
            t.same("at(" + reader + ")", -1, x.at(reader));
            t.same("read(" + reader + ")", 0, x.read(reader));
        }
        t.same("passDay()", 0, x.passDay());
    }

    private static void nothingMoved(Trial t) {
        Archive x = t.fresh();
        t.same("moved()", 0, x.moved());
        t.spreads(x, "new", 0, 0, 0, 0, 0, 0, 0, 0, 0);
        for (int level = 0; level < 9; level++) {
            t.same("loaded(" + level + ")", 0, x.loaded(level));
        }
    }

    private static void putFirst() {
        SENTENCES.holds("Promise 2: a new folder comes first", OrderSentencesTest::comesFirst,
                () -> new Model() {
                    @Override
                    public int putFirst() {
                        return comeAt(order.size());
                    }
                },
                () -> new Model() {
                    @Override
                    public int putFirst() {
                        return comeAt(Math.min(1, order.size()));
                    }
                });
        SENTENCES.holds("Promise 2: returns its number", OrderSentencesTest::putFirstReturns,
                () -> new Model() {
                    @Override
                    public int putFirst() {
                        super.putFirst();
                        return order.size();
                    }
                },
                () -> new Model() {
                    @Override
                    public int putFirst() {
                        return markOf.get(super.putFirst());
                    }
                });
    }

    private static void comesFirst(Trial t) {
        Archive x = t.allPutFirst(3);
        t.order(x, "three", 2, 1, 0);
        x.carry(2, 0);
        x.putFirst();
        t.order(x, "after a carry", 3, 1, 0, 2);
    }

    private static void putFirstReturns(Trial t) {
        Archive x = t.fresh();
        t.same("the first one", 0, x.putFirst());
        x.takeOut(0);
        t.same("the second one", 1, x.putFirst());
        t.yes("it has that number", x.has(1));
    }

    private static void putBehind() {
        SENTENCES.holds("Promise 3: a new folder comes directly behind another one",
                OrderSentencesTest::comesBehind,
                () -> new Model() {
                    @Override
                    public int putBehind(int folder) {
                        known(folder);
                        return comeAt(order.indexOf(folder));
                    }
                },
                () -> new Model() {
                    @Override
                    public int putBehind(int folder) {
                        known(folder);
                        return comeAt(order.size());
                    }
                });
        SENTENCES.holds("Promise 3: returns the number of the new one", OrderSentencesTest::putBehindReturns,
                () -> new Model() {
                    @Override
                    public int putBehind(int folder) {
                        super.putBehind(folder);
                        return folder;
                    }
                },
                () -> new Model() {
                    @Override
                    public int putBehind(int folder) {
                        super.putBehind(folder);
                        return order.size();
                    }
                });
    }

    private static void comesBehind(Trial t) {
        Archive x = t.allPutLast(3);
        x.putBehind(0);
        t.order(x, "behind the first one", 0, 3, 1, 2);
        x.putBehind(2);
        t.order(x, "behind the last one", 0, 3, 1, 2, 4);
        x.putBehind(1);
        t.order(x, "in between", 0, 3, 1, 5, 2, 4);
    }

    private static void putBehindReturns(Trial t) {
        Archive x = t.allPutLast(2);
        x.takeOut(1);
        t.same("behind 0", 2, x.putBehind(0));
        t.same("behind 2", 3, x.putBehind(2));
        t.same("next(2)", 3, x.next(2));
    }

    private static void takeOut() {
        SENTENCES.holds("Promise 4: a folder is taken out for good", OrderSentencesTest::takenOut,
                () -> new Model() {
                    @Override
                    public int takeOut(int folder) {
                        known(folder);
                        return order.size() - 1;
                    }
                },
                () -> new Model() {
                    @Override
                    public int takeOut(int folder) {
                        super.takeOut(folder);
                        markOf.put(folder, 0);
                        return order.size();
                    }
                });
        SENTENCES.holds("Promise 4: returns how many are left", OrderSentencesTest::left,
                () -> new Model() {
                    @Override
                    public int takeOut(int folder) {
                        return super.takeOut(folder) + 1;
                    }
                });
        SENTENCES.holds("Promise 4: the others keep their marks", OrderSentencesTest::leftAsTheyWere,
                () -> new Model() {
                    @Override
                    public int takeOut(int folder) {
                        int left = super.takeOut(folder);
                        for (int i = 0; i < left; i++) {
                            markOf.put(order.get(i), i * 256 / left);
                        }
                        return left;
                    }
                });
    }

    private static void takenOut(Trial t) {
        Archive x = t.allPutLast(4);
        x.takeOut(1);
        t.no("has(1)", x.has(1));
        t.order(x, "one in between", 0, 2, 3);
        t.same("previous(2)", 0, x.previous(2));
        t.same("no one at its mark", 2, x.from(128));
        x.takeOut(0);
        t.order(x, "the first one", 2, 3);
        x.takeOut(3);
        t.order(x, "the last one", 2);
        x.takeOut(2);
        t.same("none is on any shelf", 0, x.load(8, 0));
    }

    private static void left(Trial t) {
        Archive x = t.allPutLast(3);
        t.same("takeOut(1)", 2, x.takeOut(1));
        t.same("takeOut(0)", 1, x.takeOut(0));
        t.same("takeOut(2), the only one", 0, x.takeOut(2));
    }

    private static void leftAsTheyWere(Trial t) {
        Archive x = t.allPutLast(4);
        x.takeOut(1);
        t.marks(x, "without 191", 127, 223, 239);
        t.same("moved()", 0, x.moved());
    }

    private static void carry() {
        SENTENCES.holds("Promise 5: it is lifted out (its old mark is free, it is on no shelf meanwhile)",
                OrderSentencesTest::liftedOut,
                () -> new Model() {
                    private int lifted;

                    @Override
                    public int carry(int folder, int other) {
                        lifted = 1;
                        int mark = super.carry(folder, other);
                        lifted = 0;
                        return mark;
                    }

                    @Override
                    boolean isLoaded(int level, int folders) {
                        return super.isLoaded(level, folders + lifted);
                    }
                });
        SENTENCES.holds("Promise 5: and put in directly behind another one", OrderSentencesTest::carriedBehind,
                () -> new Model() {
                    @Override
                    public int carry(int folder, int other) {
                        known(folder);
                        lift(folder);
                        put(folder, order.indexOf(other));
                        return mark(folder);
                    }
                },
                () -> new Model() {
                    @Override
                    public int carry(int folder, int other) {
                        known(folder);
                        lift(folder);
                        put(folder, order.size());
                        return mark(folder);
                    }
                });
        SENTENCES.holds("Promise 5: with its own number", OrderSentencesTest::ownNumber,
                () -> new Model() {
                    @Override
                    public int carry(int folder, int other) {
                        known(folder);
                        lift(folder);
                        return mark(putBehind(other));
                    }
                });
        SENTENCES.holds("Promise 5: also if it stood there already", OrderSentencesTest::stoodThereAlready,
                () -> new Model() {
                    @Override
                    public int carry(int folder, int other) {
                        known(folder);
                        return next(other) == folder ? mark(folder) : super.carry(folder, other);
                    }
                });
    }

    private static void carryWithItsReaders() {
        SENTENCES.holds("Promise 5: readers at it stay with it", OrderSentencesTest::readersStay,
                () -> new Model() {
                    @Override
                    public int carry(int folder, int other) {
                        int after = next(folder);
                        for (int reader = 0; reader < 4; reader++) {
                            seats[reader] = seats[reader] == folder ? after : seats[reader];
                        }
                        return super.carry(folder, other);
                    }
                },
                () -> new Model() {
                    @Override
                    public int carry(int folder, int other) {
                        for (int reader = 0; reader < 4; reader++) {
                            seats[reader] = seats[reader] == folder ? NONE : seats[reader];
                        }
                        return super.carry(folder, other);
                    }
                });
    }

    private static void carriedMark() {
        SENTENCES.holds("Promise 5: (its own mark does not count as moved)", OrderSentencesTest::ownMarkIsNotMoved,
                () -> new Model() {
                    @Override
                    public int carry(int folder, int other) {
                        int before = mark(folder);
                        int after = super.carry(folder, other);
                        moved += before != after ? 1 : 0;
                        return after;
                    }
                });
        SENTENCES.holds("Promise 5: returns its mark then", OrderSentencesTest::carryReturns,
                () -> new Model() {
                    @Override
                    public int carry(int folder, int other) {
                        int before = mark(folder);
                        super.carry(folder, other);
                        return before;
                    }
                },
                () -> new Model() {
                    @Override
                    public int carry(int folder, int other) {
                        super.carry(folder, other);
                        return mark(other);
                    }
                });
    }

    /** With its own mark 3, the shelf of level 2 would be loaded; without it, 0 and 1 alone are there. */
    private static void liftedOut(Trial t) {
        Archive x = t.allPutFirst(8);
        t.same("carry(5, 7), between 0 and 1", 1, x.carry(5, 7));
        t.order(x, "three over four marks", 7, 5, 6, 4, 3, 2, 1, 0);
        t.marks(x, "three over four marks", 0, 1, 2, 7, 15, 31, 63, 127);
        t.spreads(x, "level 2", 0, 0, 1, 0, 0, 0, 0, 0, 0);
    }

    private static void carriedBehind(Trial t) {
        Archive x = t.allPutLast(4);
        x.carry(3, 0);
        t.order(x, "from the end", 0, 3, 1, 2);
        x.carry(0, 1);
        t.order(x, "from the front", 3, 1, 0, 2);
        x.carry(3, 2);
        t.order(x, "to the end", 1, 0, 2, 3);
    }

    private static void ownNumber(Trial t) {
        Archive x = t.allPutLast(4);
        x.carry(3, 0);
        t.yes("has(3)", x.has(3));
        t.no("has(4)", x.has(4));
        t.same("size()", 4, x.size());
        t.same("the next number", 4, x.putFirst());
    }

    private static void stoodThereAlready(Trial t) {
        Archive x = t.allPutLast(4);
        t.same("carry(1, 0), from 191 to between 127 and 223", 175, x.carry(1, 0));
        t.order(x, "where it stood", 0, 1, 2, 3);
        t.marks(x, "where it stood", 127, 175, 223, 239);
        t.same("carry(3, 2), from 239 to between 223 and 256", 239, x.carry(3, 2));
    }

    private static void readersStay(Trial t) {
        Archive x = t.allPutLast(4);
        x.seat(0, 1);
        x.seat(3, 1);
        x.seat(2, 2);
        x.carry(1, 3);
        t.same("at(0)", 1, x.at(0));
        t.same("at(3)", 1, x.at(3));
        t.same("at(2)", 2, x.at(2));
        t.same("read(0)", 0, x.read(0));
        x.passDay();
        t.same("from the last place a reader leaves", -1, x.at(0));
        t.same("at(2)", 3, x.at(2));
    }

    private static void ownMarkIsNotMoved(Trial t) {
        Archive x = t.allPutLast(4);
        x.carry(3, 0);
        t.same("without a spread", 0, x.moved());
        Archive y = t.allPutFirst(8);
        y.carry(5, 7);
        t.same("with a spread: 1 to 2 alone, not its own 3 to 1", 1, y.moved());
    }

    private static void carryReturns(Trial t) {
        Archive x = t.allPutLast(4);
        t.same("carry(3, 0)", 159, x.carry(3, 0));
        t.same("mark(3)", 159, x.mark(3));
        t.same("carry(0, 2)", 239, x.carry(0, 2));
        t.same("mark(0)", 239, x.mark(0));
    }

    private static void carryAsANewOne() {
        SENTENCES.holds("Promise 5: as a new one would be", OrderSentencesTest::asANewOne,
                () -> new Model() {
                    @Override
                    public int carry(int folder, int other) {
                        int movedNow = moved;
                        int mark = super.carry(folder, other);
                        moved = movedNow;
                        return mark;
                    }
                },
                () -> new Model() {
                    @Override
                    public int carry(int folder, int other) {
                        super.carry(folder, other);
                        spreads[3] = 0;
                        return mark(folder);
                    }
                });
        SENTENCES.holds("Promise 5: a folder is carried also if 60 are in the archive",
                OrderSentencesTest::carryAmongSixty,
                () -> new Model() {
                    @Override
                    public int carry(int folder, int other) {
                        if (order.size() >= 60) {
                            throw new IllegalStateException();
                        }
                        return super.carry(folder, other);
                    }
                });
        SENTENCES.holds("Promise 5: a folder is carried also if 200 have come",
                OrderSentencesTest::carryAfterTwoHundred,
                () -> new Model() {
                    @Override
                    public int carry(int folder, int other) {
                        if (came >= 200) {
                            throw new IllegalStateException();
                        }
                        return super.carry(folder, other);
                    }
                });
    }

    private static void asANewOne(Trial t) {
        Archive x = t.allPutFirst(8);
        t.same("carry(0, 7), between 0 and 1", 1, x.carry(0, 7));
        t.order(x, "spread out", 7, 0, 6, 5, 4, 3, 2, 1);
        t.marks(x, "spread out", 0, 1, 3, 4, 6, 15, 31, 63);
        t.same("1 to 3, 3 to 4, 7 to 6", 3, x.moved());
        t.spreads(x, "level 3", 0, 0, 0, 1, 0, 0, 0, 0, 0);
    }

    private static void carryAmongSixty(Trial t) {
        Crowd crowd = new Crowd(t);
        crowd.fill(256, 60);
        Archive x = crowd.archive;
        t.illegalState("one more can't come", x::putFirst);
        t.same("size()", 60, x.size());
        t.yes("carry()", x.carry(crowd.folderAt(59), crowd.folderAt(0)) >= 0);
        t.same("size() then", 60, x.size());
        t.same("it is the second one", crowd.folderAt(59), x.next(crowd.folderAt(0)));
    }

    private static void carryAfterTwoHundred(Trial t) {
        Archive x = t.afterManyCame(200);
        t.illegalState("one more can't come", x::putFirst);
        t.same("carry(199, 0)", 191, x.carry(199, 0));
        t.order(x, "carried", 0, 199);
    }

    private static void sizeAndFirst() {
        SENTENCES.holds("Promise 6: how many folders are in the archive", OrderSentencesTest::size,
                () -> new Model() {
                    @Override
                    public int size() {
                        return came;
                    }
                });
        SENTENCES.holds("Promise 7: the first folder", OrderSentencesTest::first,
                () -> new Model() {
                    @Override
                    public int first() {
                        return order.isEmpty() ? NONE : Collections.min(order);
                    }
                },
                () -> new Model() {
                    @Override
                    public int first() {
                        return order.isEmpty() ? NONE : order.get(order.size() - 1);
                    }
                });
        SENTENCES.holds("Promise 7: -1 if there is none", OrderSentencesTest::firstOfNone,
                () -> new Model() {
                    @Override
                    public int first() {
                        return order.isEmpty() ? came - 1 : super.first();
                    }
                },
                () -> new Model() {
                    @Override
                    public int first() {
                        return order.isEmpty() ? 0 : super.first();
                    }
                });
    }

    private static void size(Trial t) {
        Archive x = t.allPutLast(3);
        t.same("three came", 3, x.size());
        x.takeOut(1);
        t.same("one went", 2, x.size());
        x.carry(0, 2);
        t.same("one was carried", 2, x.size());
        x.putFirst();
        t.same("another came", 3, x.size());
        t.same("60 in", 60, t.allPutLast(60).size());
    }

    private static void first(Trial t) {
        Archive x = t.allPutLast(3);
        t.same("first()", 0, x.first());
        x.putFirst();
        t.same("one ahead of it", 3, x.first());
        x.carry(3, 2);
        t.same("carried away", 0, x.first());
        x.takeOut(0);
        t.same("taken out", 1, x.first());
    }

    private static void firstOfNone(Trial t) {
        Archive x = t.fresh();
        t.same("a new archive", -1, x.first());
        x.takeOut(x.putFirst());
        t.same("an archive emptied again", -1, x.first());
    }

    private static void next() {
        SENTENCES.holds("Promise 8: the folder directly behind one", OrderSentencesTest::next,
                () -> new Model() {
                    @Override
                    public int next(int folder) {
                        return super.next(folder) == NONE ? NONE : folder + 1;
                    }
                },
                () -> new Model() {
                    @Override
                    public int next(int folder) {
                        int after = super.next(folder);
                        return after == NONE || super.next(after) == NONE ? after : super.next(after);
                    }
                });
        SENTENCES.holds("Promise 8: -1 if it is the last one", OrderSentencesTest::nextOfTheLast,
                () -> new Model() {
                    @Override
                    public int next(int folder) {
                        return super.next(folder) == NONE ? first() : super.next(folder);
                    }
                },
                () -> new Model() {
                    @Override
                    public int next(int folder) {
                        return super.next(folder) == NONE ? folder : super.next(folder);
                    }
                });
    }

    private static void previous() {
        SENTENCES.holds("Promise 9: the folder directly ahead of one", OrderSentencesTest::previous,
                () -> new Model() {
                    @Override
                    public int previous(int folder) {
                        return super.previous(folder) == NONE ? NONE : folder - 1;
                    }
                },
                () -> new Model() {
                    @Override
                    public int previous(int folder) {
                        return super.previous(folder) == NONE ? NONE : first();
                    }
                });
        SENTENCES.holds("Promise 9: -1 if it is the first one", OrderSentencesTest::previousOfTheFirst,
                () -> new Model() {
                    @Override
                    public int previous(int folder) {
                        return super.previous(folder) == NONE ? folder : super.previous(folder);
                    }
                },
                () -> new Model() {
                    @Override
                    public int previous(int folder) {
                        return super.previous(folder) == NONE ? order.get(order.size() - 1) : super.previous(folder);
                    }
                });
    }

    private static void next(Trial t) {
        Archive x = t.allPutFirst(4);
        t.same("next(3)", 2, x.next(3));
        t.same("next(1)", 0, x.next(1));
        x.takeOut(2);
        t.same("next(3) over the gap", 1, x.next(3));
        x.carry(3, 1);
        t.same("next(1) after a carry", 3, x.next(1));
    }

    private static void nextOfTheLast(Trial t) {
        Archive x = t.allPutLast(3);
        t.same("next(2)", -1, x.next(2));
        x.takeOut(2);
        t.same("next(1), the last one then", -1, x.next(1));
        x.takeOut(0);
        t.same("next(1), the only one then", -1, x.next(1));
    }

    private static void previous(Trial t) {
        Archive x = t.allPutFirst(4);
        t.same("previous(0)", 1, x.previous(0));
        t.same("previous(1)", 2, x.previous(1));
        x.takeOut(2);
        t.same("previous(1) over the gap", 3, x.previous(1));
        x.carry(0, 3);
        t.same("previous(1) after a carry", 0, x.previous(1));
    }

    private static void previousOfTheFirst(Trial t) {
        Archive x = t.allPutLast(3);
        t.same("previous(0)", -1, x.previous(0));
        x.takeOut(0);
        t.same("previous(1), the first one then", -1, x.previous(1));
        x.takeOut(2);
        t.same("previous(1), the only one then", -1, x.previous(1));
    }

    private static void hasAndMark() {
        SENTENCES.holds("Promise 10: returns true if it is in the archive", OrderSentencesTest::hasThem,
                () -> new Model() {
                    @Override
                    public boolean has(int folder) {
                        return folder < came;
                    }
                },
                () -> new Model() {
                    @Override
                    public boolean has(int folder) {
                        return folder < order.size();
                    }
                });
        SENTENCES.holds("Promise 10: any number (it is refused for none)", OrderSentencesTest::hasAnyNumber,
                () -> new Model() {
                    @Override
                    public boolean has(int folder) {
                        within(folder, 200);
                        return super.has(folder);
                    }
                },
                () -> new Model() {
                    @Override
                    public boolean has(int folder) {
                        return folder == -1 || super.has(folder);
                    }
                },
                () -> new Model() {
                    @Override
                    public boolean has(int folder) {
                        return super.has(folder & 255);
                    }
                });
        SENTENCES.holds("Promise 11: the mark of a folder, 0 to 255", OrderSentencesTest::markOfEach,
                () -> new Model() {
                    @Override
                    public int mark(int folder) {
                        return (byte) super.mark(folder);
                    }
                },
                () -> new Model() {
                    @Override
                    public int mark(int folder) {
                        return super.mark(folder) + 1;
                    }
                });
    }

    private static void hasThem(Trial t) {
        Archive x = t.allPutLast(3);
        x.takeOut(1);
        t.yes("has(0)", x.has(0));
        t.no("has(1), taken out", x.has(1));
        t.yes("has(2)", x.has(2));
        t.no("has(3), not come yet", x.has(3));
    }

    private static void hasAnyNumber(Trial t) {
        Archive x = t.allPutLast(3);
        for (int number : List.of(-1, -2, 3, 59, 60, 199, 200, 256, 257, 65536, Integer.MAX_VALUE, Integer.MIN_VALUE)) {
            t.same("has(" + number + ")", "0", Checks.told(() -> x.has(number) ? 1 : 0));
        }
    }

    private static void markOfEach(Trial t) {
        Archive x = t.atBothEnds();
        t.marks(x, "16 folders", 0, 1, 3, 7, 15, 31, 63, 127, 191, 223, 239, 247, 251, 253, 254, 255);
    }

    private static void ahead() {
        SENTENCES.holds("Promise 12: how many folders stand ahead of one", OrderSentencesTest::aheadOfOne,
                () -> new Model() {
                    @Override
                    public int ahead(int folder) {
                        return super.ahead(folder) + 1;
                    }
                },
                () -> new Model() {
                    @Override
                    public int ahead(int folder) {
                        known(folder);
                        int found = 0;
                        for (int one : order) {
                            found += one < folder ? 1 : 0;
                        }
                        return found;
                    }
                });
        SENTENCES.holds("Promise 12: told by marks alone (as many as have a lower mark)",
                OrderSentencesTest::aheadByMarks,
                () -> new Model() {
                    @Override
                    int spreadMark(int start, int marks, int i, int n) {
                        return super.spreadMark(start, marks, n - 1 - i, n);
                    }
                });
    }

    private static void aheadOfOne(Trial t) {
        Archive x = t.allPutLast(4);
        t.same("the first one", 0, x.ahead(0));
        t.same("the last one", 3, x.ahead(3));
        x.takeOut(1);
        t.same("without one ahead", 2, x.ahead(3));
        x.carry(3, 0);
        t.same("carried", 1, x.ahead(3));
        t.same("the other one", 2, x.ahead(2));
    }

    private static void aheadByMarks(Trial t) {
        Archive x = t.allPutFirst(12);
        for (int folder = 0; folder < 12; folder++) {
            int found = 0;
            for (int other = 0; other < 12; other++) {
                found += x.mark(other) < x.mark(folder) ? 1 : 0;
            }
            t.same("ahead(" + folder + ")", found, x.ahead(folder));
        }
    }

    private static void from() {
        SENTENCES.holds("Promise 13: the folder that has a mark", OrderSentencesTest::fromItsMark,
                () -> new Model() {
                    @Override
                    public int from(int mark) {
                        return super.from(mark + 1);
                    }
                });
        SENTENCES.holds("Promise 13: or, if none has, the one with the lowest mark above it",
                OrderSentencesTest::fromTheMarkAbove,
                () -> new Model() {
                    @Override
                    public int from(int mark) {
                        return markOf.containsValue(mark) ? super.from(mark) : NONE;
                    }
                },
                () -> new Model() {
                    @Override
                    public int from(int mark) {
                        int found = super.from(mark);
                        return found == NONE || markOf.get(found) == mark ? found : order.get(order.size() - 1);
                    }
                },
                () -> new Model() {
                    @Override
                    public int from(int mark) {
                        int found = super.from(mark);
                        boolean isBelow = found != NONE && markOf.get(found) != mark && previous(found) != NONE;
                        return isBelow ? previous(found) : found;
                    }
                });
    }

    private static void fromOutside() {
        SENTENCES.holds("Promise 13: -1 if there is none", OrderSentencesTest::fromNone,
                () -> new Model() {
                    @Override
                    public int from(int mark) {
                        return super.from(mark) == NONE ? first() : super.from(mark);
                    }
                },
                () -> new Model() {
                    @Override
                    public int from(int mark) {
                        return super.from(mark) == NONE ? 0 : super.from(mark);
                    }
                });
        SENTENCES.holds("Promise 13: any number (it is refused for none)", OrderSentencesTest::fromAnyNumber,
                () -> new Model() {
                    @Override
                    public int from(int mark) {
                        within(mark, 256);
                        return super.from(mark);
                    }
                },
                () -> new Model() {
                    @Override
                    public int from(int mark) {
                        return mark < 0 ? NONE : super.from(mark);
                    }
                },
                () -> new Model() {
                    @Override
                    public int from(int mark) {
                        return super.from(mark & 255);
                    }
                });
    }

    private static void fromItsMark(Trial t) {
        Archive x = t.atBothEnds();
        t.same("from(0)", 7, x.from(0));
        t.same("from(1)", 6, x.from(1));
        t.same("from(127)", 0, x.from(127));
        t.same("from(254)", 14, x.from(254));
        t.same("from(255)", 15, x.from(255));
    }

    private static void fromTheMarkAbove(Trial t) {
        Archive x = t.allPutLast(4);
        t.same("from(0), the lowest is 127", 0, x.from(0));
        t.same("from(126)", 0, x.from(126));
        t.same("from(128), then comes 191", 1, x.from(128));
        t.same("from(190)", 1, x.from(190));
        t.same("from(224), the highest is 239", 3, x.from(224));
        x.takeOut(1);
        t.same("from(191), taken out", 2, x.from(191));
    }

    private static void fromNone(Trial t) {
        Archive x = t.allPutLast(4);
        t.same("from(239), the highest", 3, x.from(239));
        t.same("from(240)", -1, x.from(240));
        t.same("from(255)", -1, x.from(255));
        t.same("from(0) in a new archive", -1, t.fresh().from(0));
    }

    private static void fromAnyNumber(Trial t) {
        Archive x = t.atBothEnds();
        t.same("from(-1)", "7", Checks.told(() -> x.from(-1)));
        t.same("from the lowest int", "7", Checks.told(() -> x.from(Integer.MIN_VALUE)));
        t.same("from(256)", "-1", Checks.told(() -> x.from(256)));
        t.same("from(257)", "-1", Checks.told(() -> x.from(257)));
        t.same("from the highest int", "-1", Checks.told(() -> x.from(Integer.MAX_VALUE)));
    }
}
