import java.util.ArrayList;
import java.util.Collections;
import java.util.List;
import java.util.function.BiPredicate;
import java.util.function.IntBinaryOperator;
import java.util.function.ToIntFunction;

/** The sentences of "What it is" and "Terms" on numbers, limits, marks, shelves, and putting a folder in. */
public final class MarksSentencesTest {
    private static final Sentences SENTENCES = new Sentences("MarksSentencesTest");

    private interface SpreadMark {
        int of(int start, int marks, int i, int n);
    }

    public static void main(String[] args) {
        marksAndCalls();
        numbers();
        limits();
        rangeOfMarks();
        shelves();
        loadedShelves();
        halfWay();
        whichShelf();
        whichLevel();
        spreadingOut();
        SENTENCES.end();
    }

    // Models that break one rule of the terms.

    private static Model halvedBy(IntBinaryOperator half) {
        return new Model() {
            @Override
            int halfWay(int a, int b) {
                return half.applyAsInt(a, b);
            }
        };
    }

    private static Model spreadBy(SpreadMark mark) {
        return new Model() {
            @Override
            int spreadMark(int start, int marks, int i, int n) {
                return mark.of(start, marks, i, n);
            }
        };
    }

    private static Model shelvedBy(IntBinaryOperator shelf) {
        return new Model() {
            @Override
            int shelfOf(int mark, int level) {
                return shelf.applyAsInt(mark, level);
            }
        };
    }

    private static Model movedIf(BiPredicate<Integer, Integer> isMove) {
        return new Model() {
            @Override
            boolean isMove(Integer before, int after) {
                return isMove.test(before, after);
            }
        };
    }

    private static Model numberedBy(ToIntFunction<Model> number) {
        return new Model() {
            @Override
            int newNumber() {
                return number.applyAsInt(this);
            }
        };
    }

    // What the sentences say.

    private static void marksAndCalls() {
        SENTENCES.holds("What it is: of two folders the one that stands ahead has the lower mark",
                MarksSentencesTest::marksRise,
                () -> halvedBy((a, b) -> b),
                () -> spreadBy((start, marks, i, n) -> start + (n - 1 - i) * marks / n));
        SENTENCES.holds("What it is: an object is used for at most 512 calls (the 512th is answered)",
                MarksSentencesTest::theLastCall,
                () -> new Model() {
                    private int days;

                    @Override
                    public int passDay() {
                        days++;
                        return super.passDay();
                    }

                    @Override
                    public int size() {
                        return days < 450 ? super.size() : 0;
                    }
                });
    }

    private static void numbers() {
        SENTENCES.holds("Terms: folders are numbered from 0 as they come",
                MarksSentencesTest::numbersFromNull,
                () -> numberedBy(model -> model.came + 1),
                () -> new Model() {
                    @Override
                    public int carry(int folder, int other) {
                        came++;
                        return super.carry(folder, other);
                    }
                });
        SENTENCES.holds("Terms: a number is never used again",
                MarksSentencesTest::numbersNeverAgain,
                () -> numberedBy(model -> model.order.size()),
                () -> numberedBy(model -> model.order.isEmpty() ? 0 : Collections.max(model.order) + 1));
    }

    private static void limits() {
        SENTENCES.holds("Terms: 200 can come in all", MarksSentencesTest::twoHundredInAll,
                () -> limits(199, 60), () -> limits(201, 60), () -> limits(1000, 60));
        SENTENCES.holds("Terms: 60 be in the archive at a time", MarksSentencesTest::sixtyAtATime,
                () -> limits(200, 59), () -> limits(200, 61), () -> limits(60, 60));
    }

    private static void rangeOfMarks() {
        SENTENCES.holds("Terms: marks are 0 to 255 (0 is given)", MarksSentencesTest::lowestMark,
                () -> marksWithin(1, 255));
        SENTENCES.holds("Terms: marks are 0 to 255 (255 is given)", MarksSentencesTest::highestMark,
                () -> marksWithin(0, 254));
        SENTENCES.holds("Terms: marks are 0 to 255 (no other is given)", MarksSentencesTest::noOtherMark,
                () -> spreadBy((start, marks, i, n) -> start + i * marks / (n - 1)),
                () -> spreadBy((start, marks, i, n) -> start + i * marks / n - 1));
    }

    private static Model limits(int inAll, int atATime) {
        return new Model() {
            @Override
            int inAll() {
                return inAll;
            }

            @Override
            int atATime() {
                return atATime;
            }
        };
    }

    private static Model endsAt(int ahead, int behind) {
        return new Model() {
            @Override
            int markAhead(int index) {
                return index == 0 ? ahead : super.markAhead(index);
            }

            @Override
            int markBehind(int index) {
                return index == order.size() ? behind : super.markBehind(index);
            }
        };
    }

    private static Model marksWithin(int lowest, int highest) {
        return halvedBy((a, b) -> Math.max(lowest, Math.min(highest, (a + b) / 2)));
    }

    private static void marksRise(Trial t) {
        for (Archive x : List.of(t.allPutFirst(60), t.allPutLast(60), t.allBehindTheFirst(60))) {
            int before = x.first();
            for (int folder = x.next(before); folder != -1; folder = x.next(folder)) {
                t.yes("mark(" + before + ") is below mark(" + folder + ")", x.mark(before) < x.mark(folder));
                before = folder;
            }
        }
    }

    /** 60 calls, a seat, 450 days, and the one that is left. */
    private static void theLastCall(Trial t) {
        Archive x = t.allPutLast(60);
        x.seat(0, 0);
        for (int day = 1; day <= Real.CALLS - 62; day++) {
            t.same("day " + day, day < 60 ? 1 : 0, x.passDay());
        }
        t.same("the 512th call, size()", 60, x.size());
    }

    private static void numbersFromNull(Trial t) {
        Archive x = t.fresh();
        t.same("the first one", 0, x.putFirst());
        t.same("behind it", 1, x.putBehind(0));
        t.same("ahead of both", 2, x.putFirst());
        x.carry(2, 0);
        t.same("after a carry", 3, x.putBehind(1));
    }

    private static void numbersNeverAgain(Trial t) {
        Archive x = t.allPutLast(3);
        x.takeOut(2);
        t.same("after the last number was taken out", 3, x.putFirst());
        x.takeOut(0);
        x.takeOut(1);
        x.takeOut(3);
        t.same("in an archive emptied again", 4, x.putFirst());
        t.no("the number taken out", x.has(2));
    }

    private static void twoHundredInAll(Trial t) {
        Archive x = t.fresh();
        for (int i = 0; i < 199; i++) {
            t.same("number", i, x.putFirst());
            x.takeOut(i);
        }
        t.same("the 200th", 199, x.putFirst());
        t.illegalState("the 201st, with one in", x::putFirst);
        x.takeOut(199);
        t.illegalState("the 201st, with none in", x::putFirst);
    }

    private static void sixtyAtATime(Trial t) {
        Archive x = t.allPutLast(59);
        t.same("the 60th", 59, x.putFirst());
        t.illegalState("the 61st", x::putFirst);
        t.same("one is taken out", 59, x.takeOut(30));
        t.same("and another comes", 60, x.putFirst());
        t.illegalState("no more than one", x::putFirst);
    }

    private static void lowestMark(Trial t) {
        t.same("mark(7)", 0, t.allPutFirst(8).mark(7));
    }

    private static void highestMark(Trial t) {
        t.same("mark(8)", 255, t.allPutLast(9).mark(8));
    }

    private static void noOtherMark(Trial t) {
        for (Archive x : List.of(t.allPutFirst(60), t.allPutLast(60), t.allBehindTheFirst(60))) {
            for (int folder = 0; folder < 60; folder++) {
                t.yes("mark(" + folder + ") is 0 to 255", x.mark(folder) >= 0 && x.mark(folder) <= 255);
            }
        }
    }

    private static void shelves() {
        SENTENCES.holds("Terms: a shelf of the level k, 0 to 8, has 2 to the power of k marks",
                MarksSentencesTest::marksOfAShelf,
                () -> shelvedBy((mark, level) -> mark >> (level + 1)),
                () -> shelvedBy((mark, level) -> level == 0 ? mark : mark / (2 * level)));
        SENTENCES.holds("Terms: marks of a shelf, that follow one another", MarksSentencesTest::marksFollow,
                () -> shelvedBy((mark, level) -> mark % (256 >> level)));
        SENTENCES.holds("Terms: the shelf 0 of each level begins with the mark 0",
                MarksSentencesTest::shelfNullBegins,
                () -> shelvedBy((mark, level) -> (mark + 1) >> level),
                () -> shelvedBy((mark, level) -> (255 - mark) >> level));
        SENTENCES.holds("Terms: each shelf of a level above 0 is two of the level below",
                MarksSentencesTest::twoOfTheLevelBelow,
                () -> shelvedBy((mark, level) -> level == 4 ? (mark + 8) % 256 >> 4 : mark >> level));
    }

    /** The marks are 0 1 3 7 15 31 63 127: the shelf 0 of the level k has those up to 2 to the power of k, less 1. */
    private static void marksOfAShelf(Trial t) {
        Archive x = t.allPutFirst(8);
        for (int level = 0; level <= 7; level++) {
            t.same("load(" + level + ", 0)", level + 1, x.load(level, 0));
        }
        t.same("load(8, 0)", 8, x.load(8, 0));
    }

    /** The marks are 127 128 129 131 135 143 159 191; 128 begins a shelf at each level below 8. */
    private static void marksFollow(Trial t) {
        Archive x = t.allBehindTheFirst(8);
        for (int level = 0; level <= 7; level++) {
            int shelf = 128 >> level;
            t.same("load(" + level + ", " + shelf + ")", Math.min(level + 1, 7), x.load(level, shelf));
            t.same("load(" + level + ", " + (shelf - 1) + ")", 1, x.load(level, shelf - 1));
        }
    }

    private static void shelfNullBegins(Trial t) {
        Archive x = t.allPutFirst(8);
        t.same("load(0, 0): mark 0", 1, x.load(0, 0));
        t.same("load(1, 0): the marks 0 and 1", 2, x.load(1, 0));
        x.putBehind(6);
        t.same("load(1, 0) without mark 2", 2, x.load(1, 0));
        t.same("load(2, 0): the marks 0 to 3", 4, x.load(2, 0));
        Archive y = t.allPutLast(9);
        for (int level = 0; level <= 6; level++) {
            t.same("load(" + level + ", 0) of high marks", 0, y.load(level, 0));
        }
    }

    private static void twoOfTheLevelBelow(Trial t) {
        for (int level = 1; level <= 8; level++) {
            Archive x = t.atBothEnds();
            for (int shelf = 0; shelf < 256 >> level; shelf++) {
                t.same("load(" + level + ", " + shelf + ")",
                        x.load(level - 1, 2 * shelf) + x.load(level - 1, 2 * shelf + 1), x.load(level, shelf));
            }
        }
    }

    private static void loadedShelves() {
        for (int each = 0; each <= 7; each++) {
            int level = each;
            int bound = Crowd.LOADED_FROM[level];
            SENTENCES.holds("Terms: a shelf of the level " + level + " is loaded, if it has " + bound + " folders",
                    t -> {
                        loadedWith(t, level, bound - 1);
                        loadedWith(t, level, bound);
                    },
                    () -> threshold(level, bound + 1), () -> threshold(level, bound - 1));
        }
        for (int each = 2; each <= 7; each++) {
            int level = each;
            int bound = Crowd.LOADED_FROM[level];
            SENTENCES.holds("Terms: a shelf of the level " + level + " is loaded, if it has more than " + bound,
                    t -> loadedWith(t, level, bound + 1),
                    () -> new Model() {
                        @Override
                        boolean isLoaded(int asked, int folders) {
                            return super.isLoaded(asked, folders) && (asked != level || folders == bound);
                        }
                    });
        }
        SENTENCES.holds("Terms: a shelf of the level 8 is loaded, if it has 73 folders (so 60 do not load it)",
                MarksSentencesTest::levelEightIsNeverLoaded,
                () -> threshold(8, 60), () -> threshold(8, 59), () -> threshold(8, 42));
    }

    private static Model threshold(int level, int due) {
        return new Model() {
            @Override
            int threshold(int asked) {
                return asked == level ? due : super.threshold(asked);
            }
        };
    }

    /** Above level 0 each other folder stands alone on its shelf, which is not loaded by it. */
    private static void loadedWith(Trial t, int level, int folders) {
        Crowd crowd = new Crowd(t);
        crowd.haveOn(level, folders);
        t.same("load(" + level + ", 0)", folders, crowd.archive.load(level, 0));
        int due = level == 0 ? crowd.size() : folders >= Crowd.LOADED_FROM[level] ? 1 : 0;
        t.same("loaded(" + level + ") with " + folders, due, crowd.archive.loaded(level));
    }

    private static void levelEightIsNeverLoaded(Trial t) {
        Crowd crowd = new Crowd(t);
        crowd.loadUpTo(7);
        crowd.fill(256, 60);
        Archive x = crowd.archive;
        t.same("load(8, 0)", 60, x.load(8, 0));
        t.same("loaded(8)", 0, x.loaded(8));
        t.same("wouldMove behind mark 0", crowd.movesOverAll(1), x.wouldMove(crowd.folderAt(0)));
        t.same("the last one is carried behind mark 0: 256 by 60", 4,
                x.carry(crowd.folderAt(59), crowd.folderAt(0)));
        t.spreads(x, "by that", 0, 0, 0, 0, 0, 0, 0, 0, 1);
    }

    private static void halfWay() {
        SENTENCES.holds("Terms: a is -1, if it comes first", MarksSentencesTest::firstIsBehindMinusOne,
                () -> endsAt(0, 256), () -> endsAt(-2, 256), () -> endsAt(-3, 256));
        SENTENCES.holds("Terms: b is 256, if it comes last", MarksSentencesTest::lastIsAheadOf256,
                () -> endsAt(-1, 255), () -> endsAt(-1, 257), () -> endsAt(-1, 258));
        SENTENCES.holds("Terms: if b is at least 2 more than a", MarksSentencesTest::twoMore,
                () -> freeFrom(3));
        SENTENCES.holds("Terms: otherwise (b is 1 more than a)", MarksSentencesTest::oneMore,
                () -> freeFrom(1));
        SENTENCES.holds("Terms: its mark is a and b, together, divided by 2", MarksSentencesTest::half,
                () -> halvedBy((a, b) -> a + 1),
                () -> halvedBy((a, b) -> b - 1));
        SENTENCES.holds("Terms: a and b, together, divided by 2, rounded down", MarksSentencesTest::roundedDown,
                () -> halvedBy((a, b) -> (a + b + 1) / 2));
    }

    private static Model freeFrom(int difference) {
        return new Model() {
            @Override
            boolean isFree(int a, int b) {
                return b >= a + difference;
            }
        };
    }

    private static void firstIsBehindMinusOne(Trial t) {
        Archive x = t.allPutFirst(7);
        t.same("the lowest mark so far", 1, x.mark(6));
        t.same("a new one ahead of mark 1", 0, x.mark(x.putFirst()));
        t.spreads(x, "ahead of mark 1 one is free", 0, 0, 0, 0, 0, 0, 0, 0, 0);
        x.putFirst();
        t.spreads(x, "ahead of mark 0 none is free", 0, 0, 0, 1, 0, 0, 0, 0, 0);
    }

    private static void lastIsAheadOf256(Trial t) {
        Archive x = t.allPutLast(8);
        t.same("the highest mark so far", 254, x.mark(7));
        t.same("a new one behind mark 254", 255, x.mark(x.putBehind(7)));
        t.spreads(x, "behind mark 254 one is free", 0, 0, 0, 0, 0, 0, 0, 0, 0);
        x.putBehind(8);
        t.spreads(x, "behind mark 255 none is free", 0, 0, 0, 1, 0, 0, 0, 0, 0);
    }

    private static void twoMore(Trial t) {
        Archive x = t.allPutFirst(8);
        t.same("between the marks 1 and 3", 2, x.mark(x.putBehind(6)));
        t.same("no folder is moved", 0, x.moved());
        t.spreads(x, "no shelf is spread out", 0, 0, 0, 0, 0, 0, 0, 0, 0);
    }

    private static void oneMore(Trial t) {
        Archive x = t.allPutFirst(8);
        x.putBehind(7);
        t.marks(x, "between the marks 0 and 1", 0, 1, 3, 4, 6, 15, 31, 63, 127);
        t.spreads(x, "a shelf is spread out", 0, 0, 0, 1, 0, 0, 0, 0, 0);
    }

    private static void half(Trial t) {
        Archive x = t.allPutFirst(2);
        t.same("between 63 and 127", 95, x.mark(x.putBehind(1)));
        t.same("between 95 and 127", 111, x.mark(x.putBehind(2)));
    }

    private static void roundedDown(Trial t) {
        Archive x = t.fresh();
        t.same("between -1 and 256", 127, x.mark(x.putFirst()));
        t.same("between 127 and 256", 191, x.mark(x.putBehind(0)));
        t.same("between 191 and 256", 223, x.mark(x.putBehind(1)));
    }

    private static void whichShelf() {
        SENTENCES.holds("Terms: otherwise the shelf is looked for that has a", MarksSentencesTest::shelfOfTheOneAhead,
                () -> homeAt(false));
        SENTENCES.holds("Terms: (if it comes first, the one that has 0)", MarksSentencesTest::shelfOfNull,
                () -> homeAt(true));
    }

    /** Looks at b's shelf instead of a's, or at the last shelf for one that comes first. */
    private static Model homeAt(boolean isForTheFirst) {
        return new Model() {
            @Override
            int home(int a, int b) {
                if (isForTheFirst) {
                    return a == -1 ? 255 : a;
                }
                return b;
            }
        };
    }

    /** 127 ends a shelf at each level below 8, and 128 begins another one. */
    private static void shelfOfTheOneAhead(Trial t) {
        Archive x = t.allBehindTheFirst(8);
        t.same("putBehind(0), from mark 127", 8, x.putBehind(0));
        t.order(x, "the shelf of 127", 0, 8, 7, 6, 5, 4, 3, 2, 1);
        t.marks(x, "the shelf of 127", 126, 127, 128, 129, 131, 135, 143, 159, 191);
        t.spreads(x, "the shelf of 127", 0, 1, 0, 0, 0, 0, 0, 0, 0);
    }

    private static void shelfOfNull(Trial t) {
        Archive x = t.allPutFirst(9);
        t.order(x, "the shelf of 0", 8, 7, 6, 5, 4, 3, 2, 1, 0);
        t.marks(x, "the shelf of 0", 0, 1, 3, 4, 6, 15, 31, 63, 127);
        t.spreads(x, "the shelf of 0", 0, 0, 0, 1, 0, 0, 0, 0, 0);
    }

    private static void whichLevel() {
        SENTENCES.holds("Terms: of the lowest level", MarksSentencesTest::lowestLevel,
                () -> levelFrom(2, 1), () -> levelFrom(8, -1));
        SENTENCES.holds("Terms: of the lowest level above 0", MarksSentencesTest::aboveNull,
                () -> new Model() {
                    @Override
                    int levelFor(int home) {
                        return 0;
                    }
                });
        for (int each = 1; each <= 7; each++) {
            int level = each;
            int bound = Crowd.LOADED_FROM[level];
            SENTENCES.holds("Terms: at which it is not loaded (with " + bound + " on level " + level + " it is)",
                    t -> levelOfASpread(t, level, bound, level + 1),
                    () -> threshold(level, bound + 1));
            SENTENCES.holds("Terms: (the new one not counted): with " + (bound - 1) + " on level " + level,
                    t -> levelOfASpread(t, level, bound - 1, level),
                    () -> newOneCounted(level));
        }
    }

    private static Model levelFrom(int start, int step) {
        return new Model() {
            @Override
            int levelFor(int home) {
                int level = start;
                while (isLoaded(level, foldersOn(level, shelfOf(home, level)))) {
                    level += step;
                }
                return level;
            }
        };
    }

    private static Model newOneCounted(int from) {
        return new Model() {
            @Override
            int levelFor(int home) {
                int level = super.levelFor(home);
                while (level >= from && isLoaded(level, foldersOn(level, shelfOf(home, level)) + 1)) {
                    level++;
                }
                return level;
            }
        };
    }

    /** Mark 1 is free, so that the shelf 0 of each level above 0 is not loaded. */
    private static void lowestLevel(Trial t) {
        Archive x = t.allPutFirst(8);
        x.takeOut(6);
        x.takeOut(5);
        x.putFirst();
        t.marks(x, "level 1", 0, 1, 7, 15, 31, 63, 127);
        t.spreads(x, "level 1", 0, 1, 0, 0, 0, 0, 0, 0, 0);
    }

    private static void aboveNull(Trial t) {
        Archive x = t.allPutFirst(8);
        x.takeOut(6);
        x.putFirst();
        t.same("spread(0)", 0, x.spread(0));
        t.same("spread(1)", 1, x.spread(1));
        t.same("mark 0 and mark 1", 1, x.mark(7));
    }

    /** The shelf 0 is loaded at the levels below, has so many folders at this one, and is not loaded above. */
    private static void levelOfASpread(Trial t, int level, int folders, int due) {
        Crowd crowd = new Crowd(t);
        crowd.loadUpTo(level - 1);
        crowd.haveOn(level, folders);
        if (level == 1) {
            crowd.haveOn(2, 2);
        }
        t.same("load(" + level + ", 0)", folders, crowd.archive.load(level, 0));
        t.same("load(0, 0)", 1, crowd.archive.load(0, 0));
        crowd.archive.putFirst();
        int[] want = new int[9];
        want[due] = 1;
        t.spreads(crowd.archive, folders + " on level " + level, want);
    }

    private static void spreadingOut() {
        SENTENCES.holds("Terms: the folders of that shelf and the new one, n together",
                MarksSentencesTest::alltogether,
                () -> spreadBy((start, marks, i, n) -> start + i * marks / (n + 1)),
                () -> spreadBy((start, marks, i, n) -> start + i * marks / (n - 1)));
        SENTENCES.holds("Terms: the folders of that shelf (and no other one)", MarksSentencesTest::noOther,
                () -> withAnother(true), () -> withAnother(false));
        SENTENCES.holds("Terms: in their order", MarksSentencesTest::inTheirOrder,
                () -> new Model() {
                    @Override
                    List<Integer> together(int level, int shelf, int newOne) {
                        List<Integer> those = new ArrayList<>(super.together(level, shelf, newOne));
                        those.remove(Integer.valueOf(newOne));
                        those.add(newOne);
                        return those;
                    }
                });
        SENTENCES.holds("Terms: the i-th one, i from 0", MarksSentencesTest::fromNull,
                () -> spreadBy((start, marks, i, n) -> start + (i + 1) * marks / n));
        SENTENCES.holds("Terms: gets the first mark of the shelf and .., together", MarksSentencesTest::firstMarkOfTheShelf,
                () -> spreadBy((start, marks, i, n) -> i * marks / n));
        SENTENCES.holds("Terms: i times the marks of the shelf divided by n, rounded down",
                MarksSentencesTest::dividedRoundedDown,
                () -> spreadBy((start, marks, i, n) -> start + (i * marks + n - 1) / n),
                () -> spreadBy((start, marks, i, n) -> start + i * (marks / n)));
        SENTENCES.holds("Terms: a folder that has another mark than before is moved by that",
                MarksSentencesTest::anotherMark,
                () -> movedIf((before, after) -> before != null && before < after),
                () -> movedIf((before, after) -> before != null && before > after));
        SENTENCES.holds("Terms: one that keeps its mark, and the new one, are not moved",
                MarksSentencesTest::theSameMark,
                () -> movedIf((before, after) -> before != null),
                () -> movedIf((before, after) -> !after.equals(before)));
    }

    /** The folder directly ahead of the shelf, or directly behind it, is brought next to it as well. */
    private static Model withAnother(boolean isAhead) {
        return new Model() {
            @Override
            List<Integer> together(int level, int shelf, int newOne) {
                List<Integer> those = super.together(level, shelf, newOne);
                int before = order.indexOf(those.get(0)) - 1;
                int after = before + those.size() + 1;
                if (isAhead && before >= 0) {
                    markOf.put(order.get(before), shelf * marksOf(level) - 1);
                }
                if (!isAhead && after < order.size()) {
                    markOf.put(order.get(after), (shelf + 1) * marksOf(level));
                }
                return those;
            }
        };
    }

    private static void noOther(Trial t) {
        Archive x = t.allPutLast(9);
        x.takeOut(4);
        x.putBehind(8);
        t.marks(x, "239 stays ahead of 248 to 255", 127, 191, 223, 239, 248, 249, 251, 252, 254);
        Archive y = t.allPutFirst(9);
        t.marks(y, "15 stays behind 0 to 7", 0, 1, 3, 4, 6, 15, 31, 63, 127);
    }

    /** The shelf of level 3 with 251 253 254 255, and the new one: five over 248 to 255. */
    private static void alltogether(Trial t) {
        Archive x = t.allPutLast(10);
        t.marks(x, "five over eight marks", 127, 191, 223, 239, 247, 248, 249, 251, 252, 254);
    }

    private static void inTheirOrder(Trial t) {
        Archive x = t.allPutFirst(8);
        x.putBehind(7);
        t.order(x, "a new one between 0 and 1", 7, 8, 6, 5, 4, 3, 2, 1, 0);
        t.same("mark(7)", 0, x.mark(7));
        t.same("mark(8)", 1, x.mark(8));
        t.same("mark(6)", 3, x.mark(6));
        t.same("mark(5)", 4, x.mark(5));
        t.same("mark(4)", 6, x.mark(4));
    }

    private static void fromNull(Trial t) {
        t.same("the first one of the shelf from 0 on", 0, t.allPutFirst(9).mark(8));
        t.same("the first one of the shelf from 248 on", 248, t.allPutLast(10).mark(5));
    }

    private static void firstMarkOfTheShelf(Trial t) {
        Archive x = t.allPutLast(10);
        t.same("mark(5)", 248, x.mark(5));
        t.same("mark(9)", 254, x.mark(9));
    }

    /** Two over two marks, three over four, five over eight, seven over sixteen. */
    private static void dividedRoundedDown(Trial t) {
        Archive x = t.allPutFirst(8);
        x.takeOut(6);
        x.putFirst();
        t.marks(x, "level 1", 0, 1, 3, 7, 15, 31, 63, 127);
        x.takeOut(5);
        x.putFirst();
        t.marks(x, "level 2", 0, 1, 2, 7, 15, 31, 63, 127);
        t.marks(t.allPutFirst(9), "level 3", 0, 1, 3, 4, 6, 15, 31, 63, 127);
        t.marks(t.allPutFirst(10), "level 4", 0, 2, 4, 6, 9, 11, 13, 31, 63, 127);
    }

    private static void anotherMark(Trial t) {
        Archive x = t.allPutFirst(9);
        t.same("0 to 1, 1 to 3, 3 to 4, 7 to 6", 4, x.moved());
    }

    private static void theSameMark(Trial t) {
        Archive x = t.allPutFirst(8);
        x.putBehind(7);
        t.same("0 stays 0; 1 to 3, 3 to 4, 7 to 6; the new one had none", 3, x.moved());
        Archive y = t.allBehindTheFirst(8);
        y.putBehind(7);
        t.marks(y, "behind 128", 127, 128, 129, 131, 132, 134, 143, 159, 191);
        t.same("128 stays 128; 129 to 131, 131 to 132, 135 to 134", 3, y.moved());
    }
}
