import java.util.ArrayList;
import java.util.List;

/** Each promise by itself, with answers worked out by hand from the document. */
public final class PromiseTest {
    private static final Trial T = new Trial(Real::new);
    private static final int[] NO_FOLDERS = {-1, -2, 200, 1000000, Integer.MAX_VALUE, Integer.MIN_VALUE};
    private static final int[] NO_LEVELS = {-1, 9, 32, Integer.MAX_VALUE, Integer.MIN_VALUE};
    private static final int[] NO_READERS = {-1, 4, Integer.MAX_VALUE, Integer.MIN_VALUE};

    public static void main(String[] args) {
        aNewObject();
        putFirst();
        putFirstAtTheLowestMark();
        putBehind();
        putBehindAtTheHighestMark();
        putBehindWithinAShelf();
        spreadingOutOnLevelsOneAndTwo();
        limitOfFoldersAtATime();
        limitOfFoldersInAll();
        takeOut();
        carry();
        carryThatSpreadsOut();
        sizeFirstNextPrevious();
        has();
        markAheadFrom();
        gapBehind();
        load();
        loaded();
        wouldMove();
        wouldMoveInAFullArchive();
        movedAndSpread();
        seat();
        passDay();
        readersAndTakeOut();
        readersAndCarry();
        daysTo();
        wrongNumbersChangeNothing();
        T.checks.end("PromiseTest");
    }

    /** 60 folders, none of them moved: the eight of allPutFirst(8), and 52 where marks are free from 63 on. */
    private static Archive fullButForTheLowShelf() {
        Archive x = T.allPutFirst(8);
        List<Integer> upper = new ArrayList<>(List.of(1, 0));
        while (upper.size() < 54) {
            for (int place = 0; place < upper.size() && upper.size() < 54; place += 2) {
                upper.add(place + 1, x.putBehind(upper.get(place)));
            }
        }
        T.same("filled up", 60, x.size());
        T.same("filled up without a move", 0, x.moved());
        return x;
    }

    private static void aNewObject() {
        Archive x = T.fresh();
        T.same("new: size()", 0, x.size());
        T.same("new: first()", -1, x.first());
        T.same("new: moved()", 0, x.moved());
        T.same("new: from(0)", -1, x.from(0));
        T.same("new: has(0)", 0, x.has(0) ? 1 : 0);
        T.same("new: passDay()", 0, x.passDay());
        for (int level = 0; level < 9; level++) {
            T.same("new: loaded(" + level + ")", 0, x.loaded(level));
            T.same("new: spread(" + level + ")", 0, x.spread(level));
            T.same("new: load(" + level + ", 0)", 0, x.load(level, 0));
        }
        for (int reader = 0; reader < 4; reader++) {
            T.same("new: at(" + reader + ")", -1, x.at(reader));
            T.same("new: read(" + reader + ")", 0, x.read(reader));
            T.same("new: daysTo(" + reader + ", itself)", -1, x.daysTo(reader, reader));
        }
        Archive other = T.allPutFirst(3);
        other.seat(0, 1);
        T.same("new: another object is another archive", 0, x.size());
        T.same("new: another object has other readers", -1, x.at(0));
    }

    private static void putFirst() {
        Archive x = T.allPutFirst(8);
        T.order(x, "putFirst", 7, 6, 5, 4, 3, 2, 1, 0);
        T.marks(x, "putFirst", 0, 1, 3, 7, 15, 31, 63, 127);
        T.same("putFirst: moved()", 0, x.moved());
        T.spreads(x, "putFirst", 0, 0, 0, 0, 0, 0, 0, 0, 0);
    }

    /** Level 1 has 0 1, level 2 has 0 1 3: loaded both; level 3 has four folders and takes the fifth. */
    private static void putFirstAtTheLowestMark() {
        Archive x = T.allPutFirst(9);
        T.order(x, "putFirst at mark 0", 8, 7, 6, 5, 4, 3, 2, 1, 0);
        T.marks(x, "putFirst at mark 0", 0, 1, 3, 4, 6, 15, 31, 63, 127);
        T.same("putFirst at mark 0: moved()", 4, x.moved());
        T.spreads(x, "putFirst at mark 0", 0, 0, 0, 1, 0, 0, 0, 0, 0);
    }

    private static void putBehind() {
        Archive x = T.allPutLast(9);
        T.order(x, "putBehind", 0, 1, 2, 3, 4, 5, 6, 7, 8);
        T.marks(x, "putBehind", 127, 191, 223, 239, 247, 251, 253, 254, 255);
        T.same("putBehind, in between", 9, x.putBehind(0));
        T.same("putBehind, in between: mark(9)", 159, x.mark(9));
        T.order(x, "putBehind, in between", 0, 9, 1, 2, 3, 4, 5, 6, 7, 8);
        T.same("putBehind: moved()", 0, x.moved());
        T.outOfBounds("putBehind one that has not come", () -> x.putBehind(10));
        for (int no : NO_FOLDERS) {
            T.outOfBounds("putBehind(" + no + ")", () -> x.putBehind(no));
        }
        T.same("a refused putBehind takes no number", 10, x.putFirst());
        T.outOfBounds("putBehind in an empty archive", () -> T.fresh().putBehind(0));
    }

    /** Level 1 has 254 255, level 2 has 253 254 255: loaded both; level 3 has 251 253 254 255. */
    private static void putBehindAtTheHighestMark() {
        Archive x = T.allPutLast(10);
        T.order(x, "putBehind mark 255", 0, 1, 2, 3, 4, 5, 6, 7, 8, 9);
        T.marks(x, "putBehind mark 255", 127, 191, 223, 239, 247, 248, 249, 251, 252, 254);
        T.same("putBehind mark 255: moved()", 4, x.moved());
        T.spreads(x, "putBehind mark 255", 0, 0, 0, 1, 0, 0, 0, 0, 0);
    }

    /**
     * Seven behind folder 0 at 127 have 191 159 143 135 131 129 128; the next one finds no mark between
     * 127 and 128. The shelf that counts is that of 127, although 128 begins another one.
     */
    private static void putBehindWithinAShelf() {
        Archive x = T.fresh();
        x.putFirst();
        for (int i = 1; i <= 7; i++) {
            x.putBehind(0);
        }
        T.marks(x, "before", 127, 128, 129, 131, 135, 143, 159, 191);
        T.same("putBehind(0)", 8, x.putBehind(0));
        T.order(x, "the shelf of the one ahead", 0, 8, 7, 6, 5, 4, 3, 2, 1);
        T.marks(x, "the shelf of the one ahead", 126, 127, 128, 129, 131, 135, 143, 159, 191);
        T.same("the shelf of the one ahead: moved()", 1, x.moved());
        T.spreads(x, "the shelf of the one ahead", 0, 1, 0, 0, 0, 0, 0, 0, 0);
    }

    private static void spreadingOutOnLevelsOneAndTwo() {
        Archive x = T.allPutFirst(8);
        x.takeOut(6);
        T.marks(x, "0 without 1", 0, 3, 7, 15, 31, 63, 127);
        T.same("with 0 alone on level 1", 8, x.putFirst());
        T.marks(x, "level 1", 0, 1, 3, 7, 15, 31, 63, 127);
        T.order(x, "level 1", 8, 7, 5, 4, 3, 2, 1, 0);
        T.same("level 1: moved()", 1, x.moved());
        x.takeOut(5);
        x.putFirst();
        T.marks(x, "level 2: i times 4 by 3, rounded down", 0, 1, 2, 7, 15, 31, 63, 127);
        T.same("level 2: moved()", 3, x.moved());
        T.spreads(x, "levels 1 and 2", 0, 1, 1, 0, 0, 0, 0, 0, 0);
    }

    private static void limitOfFoldersAtATime() {
        Archive x = T.allPutFirst(60);
        T.same("60 in: size()", 60, x.size());
        T.illegalState("60 in: putFirst()", () -> x.putFirst());
        T.illegalState("60 in: putBehind(0)", () -> x.putBehind(0));
        T.outOfBounds("60 in: putBehind one that is not in", () -> x.putBehind(60));
        T.same("60 in: a refused one changes nothing", 60, x.size());
        T.same("60 in: takeOut(59)", 59, x.takeOut(59));
        T.same("59 in: a refused one takes no number", 60, x.putFirst());
        T.illegalState("60 in again: putFirst()", () -> x.putFirst());
    }

    private static void limitOfFoldersInAll() {
        Archive x = T.fresh();
        for (int i = 0; i < 199; i++) {
            T.same("number", i, x.putFirst());
            T.same("left", 0, x.takeOut(i));
        }
        T.same("the 200th", 199, x.putFirst());
        T.illegalState("200 came: putFirst()", () -> x.putFirst());
        T.illegalState("200 came: putBehind(199)", () -> x.putBehind(199));
        T.outOfBounds("200 came: putBehind(0)", () -> x.putBehind(0));
        T.same("200 came: size()", 1, x.size());
        T.same("200 came: the last one is in", 199, x.first());
        T.same("200 came: wouldMove", 0, x.wouldMove(199));
    }

    private static void takeOut() {
        Archive x = T.allPutLast(4);
        T.same("takeOut, in between", 3, x.takeOut(1));
        T.order(x, "takeOut, in between", 0, 2, 3);
        T.marks(x, "takeOut moves nothing", 127, 223, 239);
        T.same("takeOut, the last", 2, x.takeOut(3));
        T.same("takeOut, the first", 1, x.takeOut(0));
        T.order(x, "takeOut, both ends", 2);
        T.outOfBounds("takeOut again", () -> x.takeOut(0));
        T.outOfBounds("takeOut of one that has not come", () -> x.takeOut(4));
        for (int no : NO_FOLDERS) {
            T.outOfBounds("takeOut(" + no + ")", () -> x.takeOut(no));
        }
        T.same("takeOut, the only one", 0, x.takeOut(2));
        T.same("a number is never used again", 4, x.putFirst());
        T.same("an empty archive begins at 127", 127, x.mark(4));
        T.same("takeOut: moved()", 0, x.moved());
    }

    private static void carry() {
        Archive x = T.allPutLast(4);
        T.marks(x, "before carry", 127, 191, 223, 239);
        T.same("carry(3, 0)", 159, x.carry(3, 0));
        T.order(x, "carry to the front", 0, 3, 1, 2);
        T.same("carry(0, 2)", 239, x.carry(0, 2));
        T.order(x, "carry to the end", 3, 1, 2, 0);
        T.same("carry to where it stood: between 159 and 223", 191, x.carry(1, 3));
        T.order(x, "carry to where it stood", 3, 1, 2, 0);
        T.same("carry of the last to where it stood", 239, x.carry(0, 2));
        T.same("carry(2, 3): between 159 and 191", 175, x.carry(2, 3));
        T.same("carry to where it stood: lifted out first, so between 175 and 239", 207, x.carry(1, 2));
        T.same("its own mark does not count as moved", 0, x.moved());
        T.illegalArgument("carry(1, 1)", () -> x.carry(1, 1));
        T.outOfBounds("carry(4, 0)", () -> x.carry(4, 0));
        T.outOfBounds("carry(0, 4)", () -> x.carry(0, 4));
        T.outOfBounds("carry(4, 4)", () -> x.carry(4, 4));
        for (int no : NO_FOLDERS) {
            T.outOfBounds("carry(" + no + ", 0)", () -> x.carry(no, 0));
            T.outOfBounds("carry(0, " + no + ")", () -> x.carry(0, no));
        }
        T.order(x, "a refused carry changes nothing", 3, 2, 1, 0);
        T.same("carry takes no number", 4, x.putFirst());
    }

    private static void carryThatSpreadsOut() {
        Archive x = T.allPutFirst(8);
        T.same("carry(0, 7) finds no mark between 0 and 1", 1, x.carry(0, 7));
        T.order(x, "carry on level 3", 7, 0, 6, 5, 4, 3, 2, 1);
        T.marks(x, "carry on level 3", 0, 1, 3, 4, 6, 15, 31, 63);
        T.same("carry on level 3: 1 to 3, 3 to 4, 7 to 6", 3, x.moved());
        T.spreads(x, "carry on level 3", 0, 0, 0, 1, 0, 0, 0, 0, 0);
        Archive y = T.allPutFirst(8);
        T.same("one of the same shelf is not counted: carry(5, 7)", 1, y.carry(5, 7));
        T.marks(y, "carry on level 2", 0, 1, 2, 7, 15, 31, 63, 127);
        T.order(y, "carry on level 2", 7, 5, 6, 4, 3, 2, 1, 0);
        T.same("carry on level 2: 1 to 2", 1, y.moved());
        T.spreads(y, "carry on level 2", 0, 0, 1, 0, 0, 0, 0, 0, 0);
        Archive z = fullButForTheLowShelf();
        T.same("carry(3, 7) in a full archive: from mark 15", 1, z.carry(3, 7));
        T.same("carry in a full archive: moved()", 3, z.moved());
        T.same("carry in a full archive: size()", 60, z.size());
    }

    private static void sizeFirstNextPrevious() {
        Archive x = T.allPutLast(3);
        T.same("size()", 3, x.size());
        T.same("first()", 0, x.first());
        T.same("next(0)", 1, x.next(0));
        T.same("next of the last", -1, x.next(2));
        T.same("previous(2)", 1, x.previous(2));
        T.same("previous of the first", -1, x.previous(0));
        x.takeOut(1);
        T.same("next over the gap", 2, x.next(0));
        T.same("previous over the gap", 0, x.previous(2));
        T.outOfBounds("next of one taken out", () -> x.next(1));
        T.outOfBounds("previous of one taken out", () -> x.previous(1));
        x.putFirst();
        T.same("first() after putFirst", 3, x.first());
        for (int no : NO_FOLDERS) {
            T.outOfBounds("next(" + no + ")", () -> x.next(no));
            T.outOfBounds("previous(" + no + ")", () -> x.previous(no));
        }
    }

    private static void has() {
        Archive x = T.allPutLast(3);
        x.takeOut(1);
        T.same("has(0)", 1, x.has(0) ? 1 : 0);
        T.same("has one taken out", 0, x.has(1) ? 1 : 0);
        T.same("has(2)", 1, x.has(2) ? 1 : 0);
        T.same("has one that has not come", 0, x.has(3) ? 1 : 0);
        for (int no : NO_FOLDERS) {
            T.same("has(" + no + ")", 0, x.has(no) ? 1 : 0);
        }
    }

    private static void markAheadFrom() {
        Archive x = T.allPutLast(4);
        x.takeOut(1);
        T.same("mark(2)", 223, x.mark(2));
        T.same("ahead(0)", 0, x.ahead(0));
        T.same("ahead(2)", 1, x.ahead(2));
        T.same("ahead(3)", 2, x.ahead(3));
        T.outOfBounds("mark of one taken out", () -> x.mark(1));
        T.outOfBounds("ahead of one taken out", () -> x.ahead(1));
        for (int no : NO_FOLDERS) {
            T.outOfBounds("mark(" + no + ")", () -> x.mark(no));
            T.outOfBounds("ahead(" + no + ")", () -> x.ahead(no));
        }
        T.same("from its mark", 0, x.from(127));
        T.same("from the mark above", 2, x.from(128));
        T.same("from its mark", 2, x.from(223));
        T.same("from the mark above", 3, x.from(224));
        T.same("from the highest", 3, x.from(239));
        T.same("from above the highest", -1, x.from(240));
        T.same("from(0)", 0, x.from(0));
        T.same("from(-1)", 0, x.from(-1));
        T.same("from the least number", 0, x.from(Integer.MIN_VALUE));
        T.same("from(255)", -1, x.from(255));
        T.same("from(256)", -1, x.from(256));
        T.same("from the greatest number", -1, x.from(Integer.MAX_VALUE));
        Archive top = T.allPutLast(9);
        T.same("from(255), which one has", 8, top.from(255));
        Archive low = T.allPutFirst(8);
        T.same("from(0), which one has", 7, low.from(0));
    }

    private static void gapBehind() {
        Archive x = T.allPutLast(9);
        T.same("gapBehind(0)", 63, x.gapBehind(0));
        T.same("gapBehind(6): one mark behind", 0, x.gapBehind(6));
        T.same("gapBehind the last one at 255", 0, x.gapBehind(8));
        x.takeOut(8);
        T.same("gapBehind the last one at 254", 1, x.gapBehind(7));
        T.outOfBounds("gapBehind one taken out", () -> x.gapBehind(8));
        for (int no : NO_FOLDERS) {
            T.outOfBounds("gapBehind(" + no + ")", () -> x.gapBehind(no));
        }
        Archive one = T.allPutFirst(1);
        T.same("gapBehind the only one", 128, one.gapBehind(0));
    }

    private static void load() {
        Archive x = T.allPutFirst(8);
        int[] onShelfNull = {1, 2, 3, 4, 5, 6, 7, 8, 8};
        for (int level = 0; level < 9; level++) {
            T.same("load(" + level + ", 0)", onShelfNull[level], x.load(level, 0));
        }
        T.same("load(0, 3)", 1, x.load(0, 3));
        T.same("load(0, 2)", 0, x.load(0, 2));
        T.same("load(1, 1): the marks 2 and 3", 1, x.load(1, 1));
        T.same("load(2, 1): the marks 4 to 7", 1, x.load(2, 1));
        T.same("load(6, 1): the marks 64 to 127", 1, x.load(6, 1));
        T.same("load(7, 1)", 0, x.load(7, 1));
        for (int level = 0; level < 9; level++) {
            int at = level;
            int shelves = 256 >> level;
            T.same("load of the last shelf", level == 8 ? 8 : 0, x.load(level, shelves - 1));
            T.outOfBounds("load(" + level + ", " + shelves + ")", () -> x.load(at, shelves));
            T.outOfBounds("load(" + level + ", -1)", () -> x.load(at, -1));
            T.outOfBounds("load, the greatest shelf", () -> x.load(at, Integer.MAX_VALUE));
            T.outOfBounds("load, the least shelf", () -> x.load(at, Integer.MIN_VALUE));
        }
        for (int no : NO_LEVELS) {
            T.outOfBounds("load(" + no + ", 0)", () -> x.load(no, 0));
        }
    }

    /** The marks 0 1 3 7 15 31 63 127: shelf 0 of the levels 0 to 5 has 1 2 3 4 5 6 of them. */
    private static void loaded() {
        Archive x = T.allPutFirst(8);
        int[] want = {8, 1, 1, 0, 0, 0, 0, 0, 0};
        for (int level = 0; level < 9; level++) {
            T.same("loaded(" + level + ")", want[level], x.loaded(level));
        }
        for (int no : NO_LEVELS) {
            T.outOfBounds("loaded(" + no + ")", () -> x.loaded(no));
        }
        Archive y = T.allPutLast(60);
        T.same("60 in: loaded(0)", 60, y.loaded(0));
        T.same("60 in: loaded(8)", 0, y.loaded(8));
        loadedWhileOneEndFillsUp();
    }

    /** The shelves at the crowded end pass every load, so that each bound is met exactly. */
    private static void loadedWhileOneEndFillsUp() {
        int[] metExactly = new int[9];
        for (int folders = 1; folders <= 60; folders++) {
            for (int level = 0; level < 9; level++) {
                Archive x = T.allPutFirst(folders);
                int bound = Crowd.LOADED_FROM[level];
                int found = 0;
                for (int shelf = 0; shelf < 256 >> level; shelf++) {
                    int load = x.load(level, shelf);
                    found += load >= bound ? 1 : 0;
                    metExactly[level] += load == bound || load == bound - 1 ? 1 : 0;
                }
                T.same(folders + " in: loaded(" + level + ")", found, x.loaded(level));
            }
        }
        for (int level = 0; level < 8; level++) {
            T.same("the bound of level " + level + " is met", 1, metExactly[level] > 1 ? 1 : 0);
        }
    }

    private static void wouldMove() {
        Archive x = T.allPutFirst(8);
        T.same("wouldMove where a mark is free", 0, x.wouldMove(0));
        T.same("wouldMove(6): between 1 and 3 is one", 0, x.wouldMove(6));
        T.same("wouldMove(7): 1 to 3, 3 to 4, 7 to 6", 3, x.wouldMove(7));
        T.same("wouldMove moves nothing", 0, x.moved());
        T.spreads(x, "wouldMove spreads nothing", 0, 0, 0, 0, 0, 0, 0, 0, 0);
        T.marks(x, "wouldMove changes no mark", 0, 1, 3, 7, 15, 31, 63, 127);
        Archive y = T.allPutLast(9);
        T.same("wouldMove behind mark 255", 4, y.wouldMove(8));
        T.same("wouldMove between 254 and 255: 251, 253, 254 and 255 to 254", 4, y.wouldMove(7));
        y.takeOut(8);
        T.same("wouldMove behind the last one at 254", 0, y.wouldMove(7));
        T.outOfBounds("wouldMove of one taken out", () -> y.wouldMove(8));
        for (int no : NO_FOLDERS) {
            T.outOfBounds("wouldMove(" + no + ")", () -> y.wouldMove(no));
        }
    }

    private static void wouldMoveInAFullArchive() {
        Archive x = fullButForTheLowShelf();
        T.same("60 in: wouldMove(7)", 3, x.wouldMove(7));
        T.same("60 in: wouldMove where a mark is free", 0, x.wouldMove(6));
        T.same("60 in: wouldMove moves nothing", 0, x.moved());
        T.same("60 in: wouldMove puts nothing in", 60, x.size());
    }

    private static void movedAndSpread() {
        Archive x = T.allPutFirst(9);
        T.same("moved()", 4, x.moved());
        T.marks(x, "nine put first", 0, 1, 3, 4, 6, 15, 31, 63, 127);
        // Level 1 has 0 1, level 2 has 0 1 3, level 3 has 0 1 3 4 6: loaded all; level 4 has six of eight.
        T.same("the tenth", 9, x.putFirst());
        T.marks(x, "ten put first: i times 16 by 7", 0, 2, 4, 6, 9, 11, 13, 31, 63, 127);
        T.same("moved() adds up: 0 1 3 4 6 15 are moved", 10, x.moved());
        T.spreads(x, "ten put first", 0, 0, 0, 1, 1, 0, 0, 0, 0);
        x.takeOut(0);
        T.same("moved() stays", 10, x.moved());
        for (int no : NO_LEVELS) {
            T.outOfBounds("spread(" + no + ")", () -> x.spread(no));
        }
    }

    private static void seat() {
        Archive x = T.allPutLast(3);
        T.same("seat(0, 1)", 1, x.seat(0, 1));
        T.same("seat(3, 1)", 2, x.seat(3, 1));
        T.same("seat(2, 0)", 1, x.seat(2, 0));
        T.same("seat again at the same", 2, x.seat(0, 1));
        T.same("seat from elsewhere", 3, x.seat(2, 1));
        T.same("seat all", 4, x.seat(1, 1));
        T.same("seat away", 1, x.seat(1, 2));
        T.same("at(0)", 1, x.at(0));
        T.same("at(1)", 2, x.at(1));
        T.same("seat reads nothing", 0, x.read(2));
        for (int no : NO_READERS) {
            T.outOfBounds("seat(" + no + ", 0)", () -> x.seat(no, 0));
            T.outOfBounds("at(" + no + ")", () -> x.at(no));
            T.outOfBounds("read(" + no + ")", () -> x.read(no));
        }
        for (int no : NO_FOLDERS) {
            T.outOfBounds("seat(0, " + no + ")", () -> x.seat(0, no));
        }
        T.outOfBounds("seat at one that has not come", () -> x.seat(0, 3));
        T.same("a refused seat changes nothing", 1, x.at(0));
    }

    private static void passDay() {
        Archive x = T.allPutLast(3);
        x.seat(0, 0);
        x.seat(1, 2);
        x.seat(2, 1);
        T.same("passDay, one leaves", 2, x.passDay());
        T.same("at(0)", 1, x.at(0));
        T.same("at(1), which left", -1, x.at(1));
        T.same("at(2)", 2, x.at(2));
        T.same("at(3), which was at none", -1, x.at(3));
        T.same("read(1) counts the last one", 1, x.read(1));
        T.same("read(3)", 0, x.read(3));
        T.same("passDay, another leaves", 1, x.passDay());
        T.same("passDay, all left", 0, x.passDay());
        T.same("passDay with no one", 0, x.passDay());
        T.same("read(0)", 3, x.read(0));
        T.same("read(1) stays", 1, x.read(1));
        T.same("read(2)", 2, x.read(2));
        x.seat(0, 1);
        T.same("read goes on over a seat", 3, x.read(0));
        x.passDay();
        T.same("a folder counts as often as it was read", 4, x.read(0));
    }

    private static void readersAndTakeOut() {
        Archive x = T.allPutLast(4);
        x.seat(0, 1);
        x.seat(1, 1);
        x.seat(2, 3);
        x.seat(3, 0);
        x.takeOut(1);
        T.same("at(0) goes on", 2, x.at(0));
        T.same("at(1) goes on", 2, x.at(1));
        T.same("at(2) stays", 3, x.at(2));
        T.same("at(3) stays", 0, x.at(3));
        T.same("read(0): without having read it", 0, x.read(0));
        x.takeOut(3);
        T.same("at(2) left from the last one", -1, x.at(2));
        T.same("read(2): without having read it", 0, x.read(2));
        T.same("passDay", 1, x.passDay());
        T.same("at(3) goes over the gap", 2, x.at(3));
    }

    private static void readersAndCarry() {
        Archive x = T.allPutLast(4);
        x.seat(0, 0);
        x.seat(1, 1);
        x.carry(0, 2);
        T.same("a reader stays with a carried folder", 0, x.at(0));
        T.same("a reader of another one stays", 1, x.at(1));
        T.same("carry reads nothing", 0, x.read(0));
        T.same("passDay", 2, x.passDay());
        T.same("and goes on from its new place", 3, x.at(0));
        x.carry(3, 1);
        x.passDay();
        T.same("again", 2, x.at(0));
        Archive y = T.allPutFirst(8);
        y.seat(2, 6);
        y.putFirst();
        T.same("a reader stays whatever happens to marks", 6, y.at(2));
    }

    private static void daysTo() {
        Archive x = T.allPutLast(4);
        x.seat(0, 0);
        x.seat(1, 3);
        x.seat(2, 3);
        T.same("daysTo ahead", 3, x.daysTo(0, 1));
        T.same("daysTo back", -1, x.daysTo(1, 0));
        T.same("daysTo the same folder", 0, x.daysTo(1, 2));
        T.same("daysTo itself", 0, x.daysTo(0, 0));
        T.same("daysTo one at none", -1, x.daysTo(0, 3));
        T.same("daysTo of one at none", -1, x.daysTo(3, 0));
        T.same("daysTo of one at none to itself", -1, x.daysTo(3, 3));
        x.takeOut(1);
        T.same("daysTo over the gap", 2, x.daysTo(0, 1));
        x.carry(0, 2);
        T.same("daysTo after carry", 1, x.daysTo(0, 1));
        for (int no : NO_READERS) {
            T.outOfBounds("daysTo(" + no + ", 0)", () -> x.daysTo(no, 0));
            T.outOfBounds("daysTo(0, " + no + ")", () -> x.daysTo(0, no));
        }
    }

    private static void wrongNumbersChangeNothing() {
        Archive x = T.allPutLast(3);
        x.seat(1, 1);
        T.outOfBounds("takeOut(7)", () -> x.takeOut(7));
        T.outOfBounds("seat(1, 7)", () -> x.seat(1, 7));
        T.outOfBounds("carry(1, 7)", () -> x.carry(1, 7));
        T.illegalArgument("carry(2, 2)", () -> x.carry(2, 2));
        T.order(x, "after wrong numbers", 0, 1, 2);
        T.marks(x, "after wrong numbers", 127, 191, 223);
        T.same("after wrong numbers: at(1)", 1, x.at(1));
        T.same("after wrong numbers: the next number", 3, x.putBehind(2));
    }
}
