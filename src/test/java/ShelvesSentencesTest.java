import java.util.HashSet;
import java.util.Set;

/** The sentences of the promises 14 to 19, but for what a call throws (ThrowsTest): marks and shelves. */
public final class ShelvesSentencesTest {
    private static final Sentences SENTENCES = new Sentences("ShelvesSentencesTest");

    public static void main(String[] args) {
        gapBehind();
        load();
        loaded();
        wouldMove();
        wouldMoveWithoutRoom();
        moved();
        spread();
        SENTENCES.end();
    }

    private static void gapBehind() {
        SENTENCES.holds("Promise 14: how many marks are free between a folder and the next one",
                ShelvesSentencesTest::gapBetween,
                () -> gapOther(false, 1), () -> gapOther(false, -1),
                () -> new Model() {
                    @Override
                    public int gapBehind(int folder) {
                        return Math.max(1, super.gapBehind(folder));
                    }
                });
        SENTENCES.holds("Promise 14: or behind the last one", ShelvesSentencesTest::gapBehindTheLast,
                () -> gapOther(true, 1), () -> gapOther(true, -1),
                () -> new Model() {
                    @Override
                    public int gapBehind(int folder) {
                        return next(folder) == NONE ? 0 : super.gapBehind(folder);
                    }
                });
    }

    private static Model gapOther(boolean isForTheLast, int more) {
        return new Model() {
            @Override
            public int gapBehind(int folder) {
                int gap = super.gapBehind(folder);
                return (next(folder) == NONE) == isForTheLast ? gap + more : gap;
            }
        };
    }

    private static void gapBetween(Trial t) {
        Archive x = t.atBothEnds();
        t.same("between 0 and 1", 0, x.gapBehind(7));
        t.same("between 1 and 3", 1, x.gapBehind(6));
        t.same("between 63 and 127", 63, x.gapBehind(1));
        t.same("between 127 and 191", 63, x.gapBehind(0));
        t.same("between 254 and 255", 0, x.gapBehind(14));
        Archive y = t.allPutFirst(9);
        for (int folder = 1; folder < 8; folder++) {
            y.takeOut(folder);
        }
        t.same("between 0 and 127", 126, y.gapBehind(8));
    }

    private static void gapBehindTheLast(Trial t) {
        Archive x = t.allPutLast(9);
        t.same("behind 255", 0, x.gapBehind(8));
        x.takeOut(8);
        t.same("behind 254", 1, x.gapBehind(7));
        t.same("behind the only one, at 127", 128, t.allPutFirst(1).gapBehind(0));
        Archive y = t.allPutFirst(8);
        for (int folder = 0; folder < 7; folder++) {
            y.takeOut(folder);
        }
        t.same("behind the only one, at 0", 255, y.gapBehind(7));
    }

    private static void load() {
        SENTENCES.holds("Promise 15: how many folders a shelf has", ShelvesSentencesTest::loadOfShelves,
                () -> new Model() {
                    @Override
                    public int load(int level, int shelf) {
                        return Math.min(1, super.load(level, shelf));
                    }
                },
                () -> new Model() {
                    @Override
                    public int load(int level, int shelf) {
                        return Math.min(super.load(level, shelf), threshold(level));
                    }
                });
        SENTENCES.holds("Promise 15: shelves from 0", ShelvesSentencesTest::shelvesFromNull,
                () -> new Model() {
                    @Override
                    public int load(int level, int shelf) {
                        return super.load(level, Math.max(0, shelf - 1));
                    }
                });
    }

    private static void loadOfShelves(Trial t) {
        Archive x = t.allPutFirst(8);
        x.putBehind(6);
        t.same("the marks 0 to 3", 4, x.load(2, 0));
        t.same("the marks 0 and 1", 2, x.load(1, 0));
        t.same("the marks 2 and 3", 2, x.load(1, 1));
        t.same("the marks 4 to 7", 1, x.load(2, 1));
        t.same("the marks 8 to 11", 0, x.load(2, 2));
        t.same("all marks", 9, x.load(8, 0));
        x.takeOut(7);
        t.same("the mark 0, taken out", 0, x.load(0, 0));
        t.same("all marks, then", 8, x.load(8, 0));
        t.same("60 in", 60, t.allPutLast(60).load(8, 0));
    }

    private static void shelvesFromNull(Trial t) {
        Archive x = t.allPutFirst(1);
        for (int level = 0; level < 9; level++) {
            t.same("load(" + level + ", " + (127 >> level) + "), mark 127", 1, x.load(level, 127 >> level));
        }
        t.same("load(7, 1)", 0, x.load(7, 1));
        t.same("load(0, 0)", 0, x.load(0, 0));
        t.same("load(0, 255)", 0, x.load(0, 255));
        t.same("load(0, 255) of mark 255", 1, t.allPutLast(9).load(0, 255));
    }

    private static void loaded() {
        SENTENCES.holds("Promise 16: how many shelves of a level are loaded", ShelvesSentencesTest::loadedShelves,
                () -> new Model() {
                    @Override
                    public int loaded(int level) {
                        return Math.min(1, super.loaded(level));
                    }
                },
                () -> new Model() {
                    @Override
                    public int loaded(int level) {
                        within(level, 9);
                        return isLoaded(level, foldersOn(level, 0)) ? 1 : 0;
                    }
                });
    }

    /** The marks at both ends: 0 1 | 3 | 7 and 255 254 | 253 | 251; the bounds are 1, 2, 3 and 5. */
    private static void loadedShelves(Trial t) {
        Archive x = t.atBothEnds();
        int[] want = {16, 2, 2, 0, 0, 0, 0, 0, 0};
        for (int level = 0; level < 9; level++) {
            t.same("loaded(" + level + ")", want[level], x.loaded(level));
        }
        x.takeOut(14);
        t.same("loaded(0) without 254", 15, x.loaded(0));
        t.same("loaded(1) without 254", 1, x.loaded(1));
        t.same("loaded(2) without 254", 1, x.loaded(2));
        Archive y = t.allPutFirst(1);
        t.same("one in: loaded(0)", 1, y.loaded(0));
        t.same("one in: loaded(1)", 0, y.loaded(1));
        y.takeOut(0);
        t.same("none in: loaded(0)", 0, y.loaded(0));
    }

    private static void wouldMove() {
        SENTENCES.holds("Promise 17: how many folders would be moved, if a new one was put in directly behind one",
                ShelvesSentencesTest::wouldMoveSome,
                () -> wouldMoveOther(1),
                () -> new Model() {
                    @Override
                    public int wouldMove(int folder) {
                        int before = previous(folder);
                        return before == NONE ? 0 : super.wouldMove(before);
                    }
                });
        SENTENCES.holds("Promise 17: none, where a mark is free", ShelvesSentencesTest::wouldMoveNone,
                () -> new Model() {
                    @Override
                    public int wouldMove(int folder) {
                        return Math.max(1, super.wouldMove(folder));
                    }
                },
                () -> new Model() {
                    @Override
                    boolean isFree(int a, int b) {
                        return b > a + 2;
                    }
                });
        SENTENCES.holds("Promise 17: would be (it changes nothing)", ShelvesSentencesTest::wouldMoveChangesNothing,
                () -> new Model() {
                    @Override
                    public int wouldMove(int folder) {
                        int would = super.wouldMove(folder);
                        moved += would;
                        return would;
                    }
                },
                () -> new Model() {
                    @Override
                    public int wouldMove(int folder) {
                        int would = super.wouldMove(folder);
                        came++;
                        return would;
                    }
                },
                () -> new Model() {
                    @Override
                    public int wouldMove(int folder) {
                        int movedNow = moved;
                        takeOut(putBehind(folder));
                        return moved - movedNow;
                    }
                });
    }

    private static Model wouldMoveOther(int more) {
        return new Model() {
            @Override
            public int wouldMove(int folder) {
                return super.wouldMove(folder) + more;
            }
        };
    }

    private static void wouldMoveSome(Trial t) {
        Archive x = t.allPutFirst(8);
        t.same("behind 0: 1 to 3, 3 to 4, 7 to 6", 3, x.wouldMove(7));
        Archive y = t.allPutLast(9);
        t.same("behind 255: 251 to 248, 253 to 249, 254 to 251, 255 to 252", 4, y.wouldMove(8));
        t.same("behind 254: 251 to 248, 253 to 249, 254 to 251, 255 to 254", 4, y.wouldMove(7));
        t.same("behind 253, which is alone on its shelf of level 1: to 252", 1, y.wouldMove(6));
        Archive z = t.allBehindTheFirst(8);
        t.same("behind 127: to 126", 1, z.wouldMove(0));
        t.same("behind 128, which stays: 129 to 131, 131 to 132, 135 to 134", 3, z.wouldMove(7));
    }

    private static void wouldMoveNone(Trial t) {
        Archive x = t.allPutFirst(8);
        t.same("between 1 and 3", 0, x.wouldMove(6));
        t.same("behind the last one", 0, x.wouldMove(0));
        Archive y = t.allPutLast(8);
        t.same("behind 254, the last one", 0, y.wouldMove(7));
    }

    private static void wouldMoveChangesNothing(Trial t) {
        Archive x = t.allPutFirst(8);
        x.wouldMove(7);
        t.same("moved()", 0, x.moved());
        t.spreads(x, "after wouldMove", 0, 0, 0, 0, 0, 0, 0, 0, 0);
        t.marks(x, "after wouldMove", 0, 1, 3, 7, 15, 31, 63, 127);
        t.order(x, "after wouldMove", 7, 6, 5, 4, 3, 2, 1, 0);
        t.same("the next number", 8, x.putFirst());
    }

    private static void wouldMoveWithoutRoom() {
        SENTENCES.holds("Promise 17: would be, if (also if 60 are in the archive)",
                ShelvesSentencesTest::wouldMoveAmongSixty,
                () -> new Model() {
                    @Override
                    public int wouldMove(int folder) {
                        return order.size() < 60 ? super.wouldMove(folder) : 0;
                    }
                },
                () -> new Model() {
                    @Override
                    public int wouldMove(int folder) {
                        roomForOne();
                        return super.wouldMove(folder);
                    }
                });
        SENTENCES.holds("Promise 17: would be, if (also if 200 have come)",
                ShelvesSentencesTest::wouldMoveAfterTwoHundred,
                () -> new Model() {
                    @Override
                    public int wouldMove(int folder) {
                        return came < 200 ? super.wouldMove(folder) : 0;
                    }
                },
                () -> new Model() {
                    @Override
                    public int wouldMove(int folder) {
                        roomForOne();
                        return super.wouldMove(folder);
                    }
                });
    }

    private static void wouldMoveAmongSixty(Trial t) {
        Crowd crowd = new Crowd(t);
        crowd.loadUpTo(7);
        crowd.fill(256, 60);
        Archive x = crowd.archive;
        t.illegalState("one more can't come", x::putFirst);
        t.same("behind 0", crowd.movesOverAll(1), x.wouldMove(crowd.folderAt(0)));
        t.same("size()", 60, x.size());
    }

    private static void wouldMoveAfterTwoHundred(Trial t) {
        Archive x = t.fresh();
        x.putFirst();
        for (int i = 1; i < 193; i++) {
            x.takeOut(x.putBehind(0));
        }
        for (int i = 193; i < 200; i++) {
            t.same("putFirst()", i, x.putFirst());
        }
        t.illegalState("one more can't come", x::putFirst);
        t.same("behind 0: 1 to 3, 3 to 4, 7 to 6", 3, x.wouldMove(199));
    }

    private static void moved() {
        SENTENCES.holds("Promise 18: how many times folders were moved so far", ShelvesSentencesTest::movedSoFar,
                () -> new Model() {
                    private int before;

                    @Override
                    public int putFirst() {
                        before = moved;
                        return super.putFirst();
                    }

                    @Override
                    public int moved() {
                        return moved - before;
                    }
                },
                () -> new Model() {
                    private final Set<Integer> those = new HashSet<>();

                    @Override
                    int halfWay(int a, int b) {
                        those.add((a + b) / 2);
                        return super.halfWay(a, b);
                    }

                    @Override
                    public int moved() {
                        return Math.min(super.moved(), those.size() - 1);
                    }
                },
                () -> new Model() {
                    @Override
                    public int takeOut(int folder) {
                        moved = Math.max(0, moved - 1);
                        return super.takeOut(folder);
                    }
                },
                () -> new Model() {
                    @Override
                    public int moved() {
                        int sum = 0;
                        for (int times : spreads) {
                            sum += times;
                        }
                        return sum;
                    }
                });
    }

    private static void movedSoFar(Trial t) {
        Archive x = t.allPutFirst(9);
        t.same("0 to 1, 1 to 3, 3 to 4, 7 to 6", 4, x.moved());
        x.putFirst();
        t.same("these five again, and 15 to 13", 10, x.moved());
        x.takeOut(9);
        t.same("after one was taken out", 10, x.moved());
        x.putBehind(0);
        t.same("after one came where a mark is free", 10, x.moved());
    }

    private static void spread() {
        SENTENCES.holds("Promise 19: how many times a shelf of a level was spread out so far",
                ShelvesSentencesTest::spreadSoFar,
                () -> new Model() {
                    @Override
                    public int spread(int level) {
                        return Math.min(1, super.spread(level));
                    }
                },
                () -> new Model() {
                    @Override
                    public int takeOut(int folder) {
                        spreads[3] = 0;
                        return super.takeOut(folder);
                    }
                },
                () -> new Model() {
                    @Override
                    public int spread(int level) {
                        return level == 0 ? 0 : super.spread(level - 1);
                    }
                });
        SENTENCES.holds("Promise 19: of a level (each by itself)", ShelvesSentencesTest::spreadOfEachLevel,
                () -> new Model() {
                    @Override
                    public int spread(int level) {
                        return super.spread(level) > 0 || level == 0 ? super.spread(level) : super.spread(level - 1);
                    }
                });
    }

    private static void spreadSoFar(Trial t) {
        Archive x = t.atBothEnds();
        x.putFirst();
        t.spreads(x, "the shelf 0 of level 3", 0, 0, 0, 1, 0, 0, 0, 0, 0);
        x.putBehind(15);
        t.spreads(x, "and its last shelf", 0, 0, 0, 2, 0, 0, 0, 0, 0);
        x.takeOut(15);
        x.wouldMove(16);
        t.spreads(x, "nothing else counts", 0, 0, 0, 2, 0, 0, 0, 0, 0);
    }

    private static void spreadOfEachLevel(Trial t) {
        Archive x = t.allPutFirst(8);
        x.takeOut(6);
        x.putFirst();
        t.spreads(x, "level 1", 0, 1, 0, 0, 0, 0, 0, 0, 0);
        x.takeOut(5);
        x.putFirst();
        t.spreads(x, "levels 1 and 2", 0, 1, 1, 0, 0, 0, 0, 0, 0);
        Archive y = t.allPutFirst(10);
        t.spreads(y, "levels 3 and 4", 0, 0, 0, 1, 1, 0, 0, 0, 0);
    }
}
