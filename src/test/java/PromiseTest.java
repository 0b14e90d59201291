/** Each promise by itself, with answers worked out by hand from the document. */
public final class PromiseTest {
    private static final Checks CHECKS = new Checks();
    private static final int[] NO_FOLDERS = {-1, -2, 200, 1000000, Integer.MAX_VALUE, Integer.MIN_VALUE};
    private static final int[] NO_LEVELS = {-1, 9, 32, Integer.MAX_VALUE, Integer.MIN_VALUE};
    private static final int[] NO_READERS = {-1, 4, Integer.MAX_VALUE, Integer.MIN_VALUE};

    public static void main(String[] args) {
        aNewObject();
        putFirst();
        putFirstAtTheLowestMark();
        putBehind();
        putBehindAtTheHighestMark();
        putBehindWithinAShelf();
        spreadingOutOnLevelsOneAndTwo();
        limitOfFoldersAtATime();
        limitOfFoldersInAll();
        takeOut();
        carry();
        carryThatSpreadsOut();
        sizeFirstNextPrevious();
        has();
        markAheadFrom();
        gapBehind();
        load();
        loaded();
        wouldMove();
        wouldMoveInAFullArchive();
        movedAndSpread();
        seat();
        passDay();
        readersAndTakeOut();
        readersAndCarry();
        daysTo();
        wrongNumbersChangeNothing();
        CHECKS.end("PromiseTest");
    }

    private static void order(ShelfMarks x, String what, int... want) {
        StringBuilder due = new StringBuilder();
        for (int folder : want) {
            due.append(folder).append(' ');
        }
        StringBuilder ahead = new StringBuilder();
        int folder = x.first();
        for (int i = 0; i < 300 && folder != -1; i++) {
            ahead.append(folder).append(' ');
            folder = x.next(folder);
        }
        CHECKS.same(what + ", the order", due.toString(), ahead.toString());
        CHECKS.same(what + ", size", want.length, x.size());
    }

    private static void marks(ShelfMarks x, String what, int... want) {
        StringBuilder due = new StringBuilder();
        for (int mark : want) {
            due.append(mark).append(' ');
        }
        StringBuilder got = new StringBuilder();
        int folder = x.first();
        for (int i = 0; i < 300 && folder != -1; i++) {
            got.append(x.mark(folder)).append(' ');
            folder = x.next(folder);
        }
        CHECKS.same(what + ", the marks", due.toString(), got.toString());
    }

    private static void spreads(ShelfMarks x, String what, int... want) {
        for (int level = 0; level < 9; level++) {
            CHECKS.same(what + ", spread(" + level + ")", want[level], x.spread(level));
        }
    }

    /** Folders 0 to n - 1, where each comes first: 127, 63, 31, 15, 7, 3, 1, 0 are the marks of the first eight. */
    private static ShelfMarks allPutFirst(int n) {
        ShelfMarks x = new ShelfMarks();
        for (int i = 0; i < n; i++) {
            CHECKS.same("putFirst() no. " + i, i, x.putFirst());
        }
        return x;
    }

    /** Folders 0 to n - 1, where each comes last: 127, 191, 223, 239, 247, 251, 253, 254, 255 for the first nine. */
    private static ShelfMarks allPutLast(int n) {
        ShelfMarks x = new ShelfMarks();
        CHECKS.same("putFirst()", 0, x.putFirst());
        for (int i = 1; i < n; i++) {
            CHECKS.same("putBehind() no. " + i, i, x.putBehind(i - 1));
        }
        return x;
    }

    /** 60 folders, none of them moved yet: as allPutFirst(8), and the others where from mark 63 on most marks are free. */
    private static ShelfMarks fullButForTheLowShelf() {
        ShelfMarks x = allPutFirst(8);
        while (x.size() < 60) {
            int widest = 1;
            for (int folder = x.from(63); folder != -1; folder = x.next(folder)) {
                widest = x.gapBehind(folder) > x.gapBehind(widest) ? folder : widest;
            }
            x.putBehind(widest);
        }
        CHECKS.same("filled up without a move", 0, x.moved());
        return x;
    }

    private static void aNewObject() {
        ShelfMarks x = new ShelfMarks();
        CHECKS.same("new: size()", 0, x.size());
        CHECKS.same("new: first()", -1, x.first());
        CHECKS.same("new: moved()", 0, x.moved());
        CHECKS.same("new: from(0)", -1, x.from(0));
        CHECKS.same("new: has(0)", 0, x.has(0) ? 1 : 0);
        CHECKS.same("new: passDay()", 0, x.passDay());
        for (int level = 0; level < 9; level++) {
            CHECKS.same("new: loaded(" + level + ")", 0, x.loaded(level));
            CHECKS.same("new: spread(" + level + ")", 0, x.spread(level));
            CHECKS.same("new: load(" + level + ", 0)", 0, x.load(level, 0));
        }
        for (int reader = 0; reader < 4; reader++) {
            CHECKS.same("new: at(" + reader + ")", -1, x.at(reader));
            CHECKS.same("new: read(" + reader + ")", 0, x.read(reader));
            CHECKS.same("new: daysTo(" + reader + ", itself)", -1, x.daysTo(reader, reader));
        }
        ShelfMarks other = allPutFirst(3);
        other.seat(0, 1);
        CHECKS.same("new: another object is another archive", 0, x.size());
        CHECKS.same("new: another object has other readers", -1, x.at(0));
    }

    private static void putFirst() {
        ShelfMarks x = allPutFirst(8);
        order(x, "putFirst", 7, 6, 5, 4, 3, 2, 1, 0);
        marks(x, "putFirst", 0, 1, 3, 7, 15, 31, 63, 127);
        CHECKS.same("putFirst: moved()", 0, x.moved());
        spreads(x, "putFirst", 0, 0, 0, 0, 0, 0, 0, 0, 0);
    }

    /** Level 1 has 0 1, level 2 has 0 1 3: loaded both; level 3 has four folders and takes the fifth. */
    private static void putFirstAtTheLowestMark() {
        ShelfMarks x = allPutFirst(9);
        order(x, "putFirst at mark 0", 8, 7, 6, 5, 4, 3, 2, 1, 0);
        marks(x, "putFirst at mark 0", 0, 1, 3, 4, 6, 15, 31, 63, 127);
        CHECKS.same("putFirst at mark 0: moved()", 4, x.moved());
        spreads(x, "putFirst at mark 0", 0, 0, 0, 1, 0, 0, 0, 0, 0);
    }

    private static void putBehind() {
        ShelfMarks x = allPutLast(9);
        order(x, "putBehind", 0, 1, 2, 3, 4, 5, 6, 7, 8);
        marks(x, "putBehind", 127, 191, 223, 239, 247, 251, 253, 254, 255);
        CHECKS.same("putBehind, in between", 9, x.putBehind(0));
        CHECKS.same("putBehind, in between: mark(9)", 159, x.mark(9));
        order(x, "putBehind, in between", 0, 9, 1, 2, 3, 4, 5, 6, 7, 8);
        CHECKS.same("putBehind: moved()", 0, x.moved());
        CHECKS.outOfBounds("putBehind one that has not come", () -> x.putBehind(10));
        for (int no : NO_FOLDERS) {
            CHECKS.outOfBounds("putBehind(" + no + ")", () -> x.putBehind(no));
        }
        CHECKS.same("a refused putBehind takes no number", 10, x.putFirst());
        CHECKS.outOfBounds("putBehind in an empty archive", () -> new ShelfMarks().putBehind(0));
    }

    /** Level 1 has 254 255, level 2 has 253 254 255: loaded both; level 3 has 251 253 254 255. */
    private static void putBehindAtTheHighestMark() {
        ShelfMarks x = allPutLast(10);
        order(x, "putBehind mark 255", 0, 1, 2, 3, 4, 5, 6, 7, 8, 9);
        marks(x, "putBehind mark 255", 127, 191, 223, 239, 247, 248, 249, 251, 252, 254);
        CHECKS.same("putBehind mark 255: moved()", 4, x.moved());
        spreads(x, "putBehind mark 255", 0, 0, 0, 1, 0, 0, 0, 0, 0);
    }

    /**
     * Seven behind folder 0 at 127 have 191 159 143 135 131 129 128; the next one finds no mark between
     * 127 and 128. The shelf that counts is that of 127, although 128 begins another one.
     */
    private static void putBehindWithinAShelf() {
        ShelfMarks x = new ShelfMarks();
        x.putFirst();
        for (int i = 1; i <= 7; i++) {
            x.putBehind(0);
        }
        marks(x, "before", 127, 128, 129, 131, 135, 143, 159, 191);
        CHECKS.same("putBehind(0)", 8, x.putBehind(0));
        order(x, "the shelf of the one ahead", 0, 8, 7, 6, 5, 4, 3, 2, 1);
        marks(x, "the shelf of the one ahead", 126, 127, 128, 129, 131, 135, 143, 159, 191);
        CHECKS.same("the shelf of the one ahead: moved()", 1, x.moved());
        spreads(x, "the shelf of the one ahead", 0, 1, 0, 0, 0, 0, 0, 0, 0);
    }

    private static void spreadingOutOnLevelsOneAndTwo() {
        ShelfMarks x = allPutFirst(8);
        x.takeOut(6);
        marks(x, "0 without 1", 0, 3, 7, 15, 31, 63, 127);
        CHECKS.same("with 0 alone on level 1", 8, x.putFirst());
        marks(x, "level 1", 0, 1, 3, 7, 15, 31, 63, 127);
        order(x, "level 1", 8, 7, 5, 4, 3, 2, 1, 0);
        CHECKS.same("level 1: moved()", 1, x.moved());
        x.takeOut(5);
        x.putFirst();
        marks(x, "level 2: i times 4 by 3, rounded down", 0, 1, 2, 7, 15, 31, 63, 127);
        CHECKS.same("level 2: moved()", 3, x.moved());
        spreads(x, "levels 1 and 2", 0, 1, 1, 0, 0, 0, 0, 0, 0);
    }

    private static void limitOfFoldersAtATime() {
        ShelfMarks x = allPutFirst(60);
        CHECKS.same("60 in: size()", 60, x.size());
        CHECKS.illegalState("60 in: putFirst()", () -> x.putFirst());
        CHECKS.illegalState("60 in: putBehind(0)", () -> x.putBehind(0));
        CHECKS.outOfBounds("60 in: putBehind one that is not in", () -> x.putBehind(60));
        CHECKS.same("60 in: a refused one changes nothing", 60, x.size());
        CHECKS.same("60 in: takeOut(59)", 59, x.takeOut(59));
        CHECKS.same("59 in: a refused one takes no number", 60, x.putFirst());
        CHECKS.illegalState("60 in again: putFirst()", () -> x.putFirst());
    }

    private static void limitOfFoldersInAll() {
        ShelfMarks x = new ShelfMarks();
        for (int i = 0; i < 199; i++) {
            CHECKS.same("number", i, x.putFirst());
            CHECKS.same("left", 0, x.takeOut(i));
        }
        CHECKS.same("the 200th", 199, x.putFirst());
        CHECKS.illegalState("200 came: putFirst()", () -> x.putFirst());
        CHECKS.illegalState("200 came: putBehind(199)", () -> x.putBehind(199));
        CHECKS.outOfBounds("200 came: putBehind(0)", () -> x.putBehind(0));
        CHECKS.same("200 came: size()", 1, x.size());
        CHECKS.same("200 came: the last one is in", 199, x.first());
        CHECKS.same("200 came: wouldMove", 0, x.wouldMove(199));
    }

    private static void takeOut() {
        ShelfMarks x = allPutLast(4);
        CHECKS.same("takeOut, in between", 3, x.takeOut(1));
        order(x, "takeOut, in between", 0, 2, 3);
        marks(x, "takeOut moves nothing", 127, 223, 239);
        CHECKS.same("takeOut, the last", 2, x.takeOut(3));
        CHECKS.same("takeOut, the first", 1, x.takeOut(0));
        order(x, "takeOut, both ends", 2);
        CHECKS.outOfBounds("takeOut again", () -> x.takeOut(0));
        CHECKS.outOfBounds("takeOut of one that has not come", () -> x.takeOut(4));
        for (int no : NO_FOLDERS) {
            CHECKS.outOfBounds("takeOut(" + no + ")", () -> x.takeOut(no));
        }
        CHECKS.same("takeOut, the only one", 0, x.takeOut(2));
        CHECKS.same("a number is never used again", 4, x.putFirst());
        CHECKS.same("an empty archive begins at 127", 127, x.mark(4));
        CHECKS.same("takeOut: moved()", 0, x.moved());
    }

    private static void carry() {
        ShelfMarks x = allPutLast(4);
        marks(x, "before carry", 127, 191, 223, 239);
        CHECKS.same("carry(3, 0)", 159, x.carry(3, 0));
        order(x, "carry to the front", 0, 3, 1, 2);
        CHECKS.same("carry(0, 2)", 239, x.carry(0, 2));
        order(x, "carry to the end", 3, 1, 2, 0);
        CHECKS.same("carry to where it stood: between 159 and 223", 191, x.carry(1, 3));
        order(x, "carry to where it stood", 3, 1, 2, 0);
        CHECKS.same("carry of the last to where it stood", 239, x.carry(0, 2));
        CHECKS.same("carry(2, 3): between 159 and 191", 175, x.carry(2, 3));
        CHECKS.same("carry to where it stood: lifted out first, so between 175 and 239", 207, x.carry(1, 2));
        CHECKS.same("its own mark does not count as moved", 0, x.moved());
        CHECKS.illegalArgument("carry(1, 1)", () -> x.carry(1, 1));
        CHECKS.outOfBounds("carry(4, 0)", () -> x.carry(4, 0));
        CHECKS.outOfBounds("carry(0, 4)", () -> x.carry(0, 4));
        CHECKS.outOfBounds("carry(4, 4)", () -> x.carry(4, 4));
        for (int no : NO_FOLDERS) {
            CHECKS.outOfBounds("carry(" + no + ", 0)", () -> x.carry(no, 0));
            CHECKS.outOfBounds("carry(0, " + no + ")", () -> x.carry(0, no));
        }
        order(x, "a refused carry changes nothing", 3, 2, 1, 0);
        CHECKS.same("carry takes no number", 4, x.putFirst());
    }

    private static void carryThatSpreadsOut() {
        ShelfMarks x = allPutFirst(8);
        CHECKS.same("carry(0, 7) finds no mark between 0 and 1", 1, x.carry(0, 7));
        order(x, "carry on level 3", 7, 0, 6, 5, 4, 3, 2, 1);
        marks(x, "carry on level 3", 0, 1, 3, 4, 6, 15, 31, 63);
        CHECKS.same("carry on level 3: 1 to 3, 3 to 4, 7 to 6", 3, x.moved());
        spreads(x, "carry on level 3", 0, 0, 0, 1, 0, 0, 0, 0, 0);
        ShelfMarks y = allPutFirst(8);
        CHECKS.same("one of the same shelf is not counted: carry(5, 7)", 1, y.carry(5, 7));
        marks(y, "carry on level 2", 0, 1, 2, 7, 15, 31, 63, 127);
        order(y, "carry on level 2", 7, 5, 6, 4, 3, 2, 1, 0);
        CHECKS.same("carry on level 2: 1 to 2", 1, y.moved());
        spreads(y, "carry on level 2", 0, 0, 1, 0, 0, 0, 0, 0, 0);
        ShelfMarks z = fullButForTheLowShelf();
        CHECKS.same("carry(3, 7) in a full archive: from mark 15", 1, z.carry(3, 7));
        CHECKS.same("carry in a full archive: moved()", 3, z.moved());
        CHECKS.same("carry in a full archive: size()", 60, z.size());
    }

    private static void sizeFirstNextPrevious() {
        ShelfMarks x = allPutLast(3);
        CHECKS.same("size()", 3, x.size());
        CHECKS.same("first()", 0, x.first());
        CHECKS.same("next(0)", 1, x.next(0));
        CHECKS.same("next of the last", -1, x.next(2));
        CHECKS.same("previous(2)", 1, x.previous(2));
        CHECKS.same("previous of the first", -1, x.previous(0));
        x.takeOut(1);
        CHECKS.same("next over the gap", 2, x.next(0));
        CHECKS.same("previous over the gap", 0, x.previous(2));
        CHECKS.outOfBounds("next of one taken out", () -> x.next(1));
        CHECKS.outOfBounds("previous of one taken out", () -> x.previous(1));
        x.putFirst();
        CHECKS.same("first() after putFirst", 3, x.first());
        for (int no : NO_FOLDERS) {
            CHECKS.outOfBounds("next(" + no + ")", () -> x.next(no));
            CHECKS.outOfBounds("previous(" + no + ")", () -> x.previous(no));
        }
    }

    private static void has() {
        ShelfMarks x = allPutLast(3);
        x.takeOut(1);
        CHECKS.same("has(0)", 1, x.has(0) ? 1 : 0);
        CHECKS.same("has one taken out", 0, x.has(1) ? 1 : 0);
        CHECKS.same("has(2)", 1, x.has(2) ? 1 : 0);
        CHECKS.same("has one that has not come", 0, x.has(3) ? 1 : 0);
        for (int no : NO_FOLDERS) {
            CHECKS.same("has(" + no + ")", 0, x.has(no) ? 1 : 0);
        }
    }

    private static void markAheadFrom() {
        ShelfMarks x = allPutLast(4);
        x.takeOut(1);
        CHECKS.same("mark(2)", 223, x.mark(2));
        CHECKS.same("ahead(0)", 0, x.ahead(0));
        CHECKS.same("ahead(2)", 1, x.ahead(2));
        CHECKS.same("ahead(3)", 2, x.ahead(3));
        CHECKS.outOfBounds("mark of one taken out", () -> x.mark(1));
        CHECKS.outOfBounds("ahead of one taken out", () -> x.ahead(1));
        for (int no : NO_FOLDERS) {
            CHECKS.outOfBounds("mark(" + no + ")", () -> x.mark(no));
            CHECKS.outOfBounds("ahead(" + no + ")", () -> x.ahead(no));
        }
        CHECKS.same("from its mark", 0, x.from(127));
        CHECKS.same("from the mark above", 2, x.from(128));
        CHECKS.same("from its mark", 2, x.from(223));
        CHECKS.same("from the mark above", 3, x.from(224));
        CHECKS.same("from the highest", 3, x.from(239));
        CHECKS.same("from above the highest", -1, x.from(240));
        CHECKS.same("from(0)", 0, x.from(0));
        CHECKS.same("from(-1)", 0, x.from(-1));
        CHECKS.same("from the least number", 0, x.from(Integer.MIN_VALUE));
        CHECKS.same("from(255)", -1, x.from(255));
        CHECKS.same("from(256)", -1, x.from(256));
        CHECKS.same("from the greatest number", -1, x.from(Integer.MAX_VALUE));
        ShelfMarks top = allPutLast(9);
        CHECKS.same("from(255), which one has", 8, top.from(255));
        ShelfMarks low = allPutFirst(8);
        CHECKS.same("from(0), which one has", 7, low.from(0));
    }

    private static void gapBehind() {
        ShelfMarks x = allPutLast(9);
        CHECKS.same("gapBehind(0)", 63, x.gapBehind(0));
        CHECKS.same("gapBehind(6): one mark behind", 0, x.gapBehind(6));
        CHECKS.same("gapBehind the last one at 255", 0, x.gapBehind(8));
        x.takeOut(8);
        CHECKS.same("gapBehind the last one at 254", 1, x.gapBehind(7));
        CHECKS.outOfBounds("gapBehind one taken out", () -> x.gapBehind(8));
        for (int no : NO_FOLDERS) {
            CHECKS.outOfBounds("gapBehind(" + no + ")", () -> x.gapBehind(no));
        }
        ShelfMarks one = allPutFirst(1);
        CHECKS.same("gapBehind the only one", 128, one.gapBehind(0));
    }

    private static void load() {
        ShelfMarks x = allPutFirst(8);
        int[] onShelfNull = {1, 2, 3, 4, 5, 6, 7, 8, 8};
        for (int level = 0; level < 9; level++) {
            CHECKS.same("load(" + level + ", 0)", onShelfNull[level], x.load(level, 0));
        }
        CHECKS.same("load(0, 3)", 1, x.load(0, 3));
        CHECKS.same("load(0, 2)", 0, x.load(0, 2));
        CHECKS.same("load(1, 1): the marks 2 and 3", 1, x.load(1, 1));
        CHECKS.same("load(2, 1): the marks 4 to 7", 1, x.load(2, 1));
        CHECKS.same("load(6, 1): the marks 64 to 127", 1, x.load(6, 1));
        CHECKS.same("load(7, 1)", 0, x.load(7, 1));
        for (int level = 0; level < 9; level++) {
            int at = level;
            int shelves = 256 >> level;
            CHECKS.same("load of the last shelf", level == 8 ? 8 : 0, x.load(level, shelves - 1));
            CHECKS.outOfBounds("load(" + level + ", " + shelves + ")", () -> x.load(at, shelves));
            CHECKS.outOfBounds("load(" + level + ", -1)", () -> x.load(at, -1));
            CHECKS.outOfBounds("load, the greatest shelf", () -> x.load(at, Integer.MAX_VALUE));
            CHECKS.outOfBounds("load, the least shelf", () -> x.load(at, Integer.MIN_VALUE));
        }
        for (int no : NO_LEVELS) {
            CHECKS.outOfBounds("load(" + no + ", 0)", () -> x.load(no, 0));
        }
    }

    /** The marks 0 1 3 7 15 31 63 127: shelf 0 of the levels 0 to 5 has 1 2 3 4 5 6 of them. */
    private static void loaded() {
        ShelfMarks x = allPutFirst(8);
        int[] want = {8, 1, 1, 0, 0, 0, 0, 0, 0};
        for (int level = 0; level < 9; level++) {
            CHECKS.same("loaded(" + level + ")", want[level], x.loaded(level));
        }
        for (int no : NO_LEVELS) {
            CHECKS.outOfBounds("loaded(" + no + ")", () -> x.loaded(no));
        }
        ShelfMarks y = allPutLast(60);
        CHECKS.same("60 in: loaded(0)", 60, y.loaded(0));
        CHECKS.same("60 in: loaded(8)", 0, y.loaded(8));
        loadedWhileOneEndFillsUp();
    }

    /** The shelves at the crowded end pass every load, so that each bound is met exactly. */
    private static void loadedWhileOneEndFillsUp() {
        int[] bounds = {1, 2, 3, 5, 8, 14, 24, 42, 73};
        int[] metExactly = new int[9];
        ShelfMarks x = new ShelfMarks();
        while (x.size() < 60) {
            x.putFirst();
            for (int level = 0; level < 9; level++) {
                int found = 0;
                for (int shelf = 0; shelf < 256 >> level; shelf++) {
                    int load = x.load(level, shelf);
                    found += load >= bounds[level] ? 1 : 0;
                    metExactly[level] += load == bounds[level] || load == bounds[level] - 1 ? 1 : 0;
                }
                CHECKS.same(x.size() + " in: loaded(" + level + ")", found, x.loaded(level));
            }
        }
        for (int level = 0; level < 8; level++) {
            CHECKS.same("the bound of level " + level + " is met", 1, metExactly[level] > 1 ? 1 : 0);
        }
    }

    private static void wouldMove() {
        ShelfMarks x = allPutFirst(8);
        CHECKS.same("wouldMove where a mark is free", 0, x.wouldMove(0));
        CHECKS.same("wouldMove(6): between 1 and 3 is one", 0, x.wouldMove(6));
        CHECKS.same("wouldMove(7): 1 to 3, 3 to 4, 7 to 6", 3, x.wouldMove(7));
        CHECKS.same("wouldMove moves nothing", 0, x.moved());
        spreads(x, "wouldMove spreads nothing", 0, 0, 0, 0, 0, 0, 0, 0, 0);
        marks(x, "wouldMove changes no mark", 0, 1, 3, 7, 15, 31, 63, 127);
        ShelfMarks y = allPutLast(9);
        CHECKS.same("wouldMove behind mark 255", 4, y.wouldMove(8));
        CHECKS.same("wouldMove between 254 and 255: 251, 253, 254 and 255 to 254", 4, y.wouldMove(7));
        y.takeOut(8);
        CHECKS.same("wouldMove behind the last one at 254", 0, y.wouldMove(7));
        CHECKS.outOfBounds("wouldMove of one taken out", () -> y.wouldMove(8));
        for (int no : NO_FOLDERS) {
            CHECKS.outOfBounds("wouldMove(" + no + ")", () -> y.wouldMove(no));
        }
    }

    private static void wouldMoveInAFullArchive() {
        ShelfMarks x = fullButForTheLowShelf();
        CHECKS.same("60 in: wouldMove(7)", 3, x.wouldMove(7));
        CHECKS.same("60 in: wouldMove where a mark is free", 0, x.wouldMove(6));
        CHECKS.same("60 in: wouldMove moves nothing", 0, x.moved());
        CHECKS.same("60 in: wouldMove puts nothing in", 60, x.size());
    }

    private static void movedAndSpread() {
        ShelfMarks x = allPutFirst(9);
        CHECKS.same("moved()", 4, x.moved());
        marks(x, "nine put first", 0, 1, 3, 4, 6, 15, 31, 63, 127);
        // Level 1 has 0 1, level 2 has 0 1 3, level 3 has 0 1 3 4 6: loaded all; level 4 has six of eight.
        CHECKS.same("the tenth", 9, x.putFirst());
        marks(x, "ten put first: i times 16 by 7", 0, 2, 4, 6, 9, 11, 13, 31, 63, 127);
        CHECKS.same("moved() adds up: 0 1 3 4 6 15 are moved", 10, x.moved());
        spreads(x, "ten put first", 0, 0, 0, 1, 1, 0, 0, 0, 0);
        x.takeOut(0);
        CHECKS.same("moved() stays", 10, x.moved());
        for (int no : NO_LEVELS) {
            CHECKS.outOfBounds("spread(" + no + ")", () -> x.spread(no));
        }
    }

    private static void seat() {
        ShelfMarks x = allPutLast(3);
        CHECKS.same("seat(0, 1)", 1, x.seat(0, 1));
        CHECKS.same("seat(3, 1)", 2, x.seat(3, 1));
        CHECKS.same("seat(2, 0)", 1, x.seat(2, 0));
        CHECKS.same("seat again at the same", 2, x.seat(0, 1));
        CHECKS.same("seat from elsewhere", 3, x.seat(2, 1));
        CHECKS.same("seat all", 4, x.seat(1, 1));
        CHECKS.same("seat away", 1, x.seat(1, 2));
        CHECKS.same("at(0)", 1, x.at(0));
        CHECKS.same("at(1)", 2, x.at(1));
        CHECKS.same("seat reads nothing", 0, x.read(2));
        for (int no : NO_READERS) {
            CHECKS.outOfBounds("seat(" + no + ", 0)", () -> x.seat(no, 0));
            CHECKS.outOfBounds("at(" + no + ")", () -> x.at(no));
            CHECKS.outOfBounds("read(" + no + ")", () -> x.read(no));
        }
        for (int no : NO_FOLDERS) {
            CHECKS.outOfBounds("seat(0, " + no + ")", () -> x.seat(0, no));
        }
        CHECKS.outOfBounds("seat at one that has not come", () -> x.seat(0, 3));
        CHECKS.same("a refused seat changes nothing", 1, x.at(0));
    }

    private static void passDay() {
        ShelfMarks x = allPutLast(3);
        x.seat(0, 0);
        x.seat(1, 2);
        x.seat(2, 1);
        CHECKS.same("passDay, one leaves", 2, x.passDay());
        CHECKS.same("at(0)", 1, x.at(0));
        CHECKS.same("at(1), which left", -1, x.at(1));
        CHECKS.same("at(2)", 2, x.at(2));
        CHECKS.same("at(3), which was at none", -1, x.at(3));
        CHECKS.same("read(1) counts the last one", 1, x.read(1));
        CHECKS.same("read(3)", 0, x.read(3));
        CHECKS.same("passDay, another leaves", 1, x.passDay());
        CHECKS.same("passDay, all left", 0, x.passDay());
        CHECKS.same("passDay with no one", 0, x.passDay());
        CHECKS.same("read(0)", 3, x.read(0));
        CHECKS.same("read(1) stays", 1, x.read(1));
        CHECKS.same("read(2)", 2, x.read(2));
        x.seat(0, 1);
        CHECKS.same("read goes on over a seat", 3, x.read(0));
        x.passDay();
        CHECKS.same("a folder counts as often as it was read", 4, x.read(0));
    }

    private static void readersAndTakeOut() {
        ShelfMarks x = allPutLast(4);
        x.seat(0, 1);
        x.seat(1, 1);
        x.seat(2, 3);
        x.seat(3, 0);
        x.takeOut(1);
        CHECKS.same("at(0) goes on", 2, x.at(0));
        CHECKS.same("at(1) goes on", 2, x.at(1));
        CHECKS.same("at(2) stays", 3, x.at(2));
        CHECKS.same("at(3) stays", 0, x.at(3));
        CHECKS.same("read(0): without having read it", 0, x.read(0));
        x.takeOut(3);
        CHECKS.same("at(2) left from the last one", -1, x.at(2));
        CHECKS.same("read(2): without having read it", 0, x.read(2));
        CHECKS.same("passDay", 1, x.passDay());
        CHECKS.same("at(3) goes over the gap", 2, x.at(3));
    }

    private static void readersAndCarry() {
        ShelfMarks x = allPutLast(4);
        x.seat(0, 0);
        x.seat(1, 1);
        x.carry(0, 2);
        CHECKS.same("a reader stays with a carried folder", 0, x.at(0));
        CHECKS.same("a reader of another one stays", 1, x.at(1));
        CHECKS.same("carry reads nothing", 0, x.read(0));
        CHECKS.same("passDay", 2, x.passDay());
        CHECKS.same("and goes on from its new place", 3, x.at(0));
        x.carry(3, 1);
        x.passDay();
        CHECKS.same("again", 2, x.at(0));
        ShelfMarks y = allPutFirst(8);
        y.seat(2, 6);
        y.putFirst();
        CHECKS.same("a reader stays whatever happens to marks", 6, y.at(2));
    }

    private static void daysTo() {
        ShelfMarks x = allPutLast(4);
        x.seat(0, 0);
        x.seat(1, 3);
        x.seat(2, 3);
        CHECKS.same("daysTo ahead", 3, x.daysTo(0, 1));
        CHECKS.same("daysTo back", -1, x.daysTo(1, 0));
        CHECKS.same("daysTo the same folder", 0, x.daysTo(1, 2));
        CHECKS.same("daysTo itself", 0, x.daysTo(0, 0));
        CHECKS.same("daysTo one at none", -1, x.daysTo(0, 3));
        CHECKS.same("daysTo of one at none", -1, x.daysTo(3, 0));
        CHECKS.same("daysTo of one at none to itself", -1, x.daysTo(3, 3));
        x.takeOut(1);
        CHECKS.same("daysTo over the gap", 2, x.daysTo(0, 1));
        x.carry(0, 2);
        CHECKS.same("daysTo after carry", 1, x.daysTo(0, 1));
        for (int no : NO_READERS) {
            CHECKS.outOfBounds("daysTo(" + no + ", 0)", () -> x.daysTo(no, 0));
            CHECKS.outOfBounds("daysTo(0, " + no + ")", () -> x.daysTo(0, no));
        }
    }

    private static void wrongNumbersChangeNothing() {
        ShelfMarks x = allPutLast(3);
        x.seat(1, 1);
        CHECKS.outOfBounds("takeOut(7)", () -> x.takeOut(7));
        CHECKS.outOfBounds("seat(1, 7)", () -> x.seat(1, 7));
        CHECKS.outOfBounds("carry(1, 7)", () -> x.carry(1, 7));
        CHECKS.illegalArgument("carry(2, 2)", () -> x.carry(2, 2));
        order(x, "after wrong numbers", 0, 1, 2);
        marks(x, "after wrong numbers", 127, 191, 223);
        CHECKS.same("after wrong numbers: at(1)", 1, x.at(1));
        CHECKS.same("after wrong numbers: the next number", 3, x.putBehind(2));
    }
}
