import java.util.ArrayList;
import java.util.List;

/**
 * The sentences "Throws .. if ..": for each argument the values just inside and just outside of what is allowed,
 * the lowest and the highest int, and that a refused call changes nothing that later calls show.
 */
public final class ThrowsTest {
    private interface Call {
        long answer(Archive x, int argument);
    }

    private static final Sentences SENTENCES = new Sentences("ThrowsTest");

    /** After tenCame: 1 is the lowest and 8 the highest number in the archive; 0, 4 and 9 were taken out. */
    private static final int[] FOLDERS_IN = {1, 3, 5, 8};
    private static final int[] FOLDERS_OUT = {0, 4, 9, 10, 11, -1, -2, -3, 59, 60, 199, 200, 257, 65537,
            Integer.MAX_VALUE, Integer.MIN_VALUE, Integer.MIN_VALUE + 1};
    private static final int[] READERS_IN = {0, 1, 2, 3};
    private static final int[] READERS_OUT = {-1, 4, 5, 256, Integer.MAX_VALUE, Integer.MIN_VALUE};
    private static final int[] LEVELS_IN = {0, 1, 7, 8};
    private static final int[] LEVELS_OUT = {-1, 9, 10, 31, 32, 33, 256, Integer.MAX_VALUE, Integer.MIN_VALUE};

    public static void main(String[] args) {
        changingCalls();
        carry();
        withoutRoom();
        askingForAFolder();
        levels();
        shelves();
        readers();
        SENTENCES.end();
    }

    // What the tests begin with.

    private static void tenCame(Archive x) {
        x.putFirst();
        for (int i = 1; i < 10; i++) {
            x.putBehind(i - 1);
        }
        x.takeOut(0);
        x.takeOut(4);
        x.takeOut(9);
        x.seat(0, 2);
        x.seat(1, 5);
        x.seat(2, 5);
        x.passDay();
    }

    private static void sixtyCame(Archive x) {
        x.putFirst();
        for (int i = 1; i < 60; i++) {
            x.putBehind(i - 1);
        }
        x.seat(3, 58);
        x.passDay();
    }

    /** 0 and 199 are in the archive. */
    private static void allCame(Archive x) {
        x.putFirst();
        for (int i = 1; i < 199; i++) {
            x.takeOut(x.putBehind(0));
        }
        x.putBehind(0);
        x.seat(2, 0);
        x.passDay();
    }

    /** Calls that change something, for what a refused call left to be seen later. */
    private static void goOn(Archive x) {
        x.carry(8, 1);
        x.passDay();
        x.takeOut(5);
        x.putBehind(x.putFirst());
    }

    // What each test does.

    private static void refuses(Trial t, String what, Call call, int[] out) {
        for (int each : out) {
            Archive x = t.fresh();
            tenCame(x);
            t.outOfBounds(what + " with " + each, () -> call.answer(x, each));
        }
        changesNothing(t, what, ThrowsTest::tenCame, x -> {
            for (int each : out) {
                Checks.told(() -> call.answer(x, each));
            }
        }, ThrowsTest::goOn);
    }

    private static void accepts(Trial t, String what, Call call, int[] in) {
        for (int each : in) {
            Archive x = t.fresh();
            tenCame(x);
            String told = Checks.told(() -> call.answer(x, each));
            t.no(what + " with " + each + " answers " + told, told.startsWith("throws"));
        }
    }

    private static void changesNothing(Trial t, String what, Questions.Script before, Questions.Script refused,
            Questions.Script after) {
        Questions.same(t, what + " refused", before, x -> {
            before.on(x);
            refused.on(x);
        });
        Questions.same(t, what + " refused, and other calls", x -> {
            before.on(x);
            after.on(x);
        }, x -> {
            before.on(x);
            refused.on(x);
            after.on(x);
        });
    }

    /** A sentence on one argument of a method: the row has null in its place, and others that are allowed. */
    private static void onArgument(String sentence, String method, Call call, int[] in, int[] out, Integer... row) {
        List<Trial.Maker> breaks = new ArrayList<>();
        for (int each : out) {
            breaks.add(Breaks.accepting(method, rowWith(row, each)));
        }
        for (int each : in) {
            breaks.add(Breaks.refusing(method, rowWith(row, each)));
        }
        breaks.add(Breaks.wrongly(new IllegalArgumentException(), method, rowWith(row, out[0])));
        breaks.add(Breaks.usingUpANumber(method));
        SENTENCES.holds(sentence, t -> {
            refuses(t, method, call, out);
            accepts(t, method, call, in);
        }, breaks.toArray(new Trial.Maker[0]));
    }

    /** The row of arguments with the one that is meant in the place of null. */
    private static Integer[] rowWith(Integer[] row, int argument) {
        Integer[] full = row.clone();
        for (int i = 0; i < full.length; i++) {
            full[i] = full[i] == null ? Integer.valueOf(argument) : full[i];
        }
        return full;
    }

    private static void onFolder(String sentence, String method, Call call) {
        onArgument(sentence, method, call, FOLDERS_IN, FOLDERS_OUT, (Integer) null);
    }

    // Folders come, go, and change their places.

    private static void changingCalls() {
        onFolder("Promise 3: throws IndexOutOfBoundsException if that one is not in the archive", "putBehind",
                Archive::putBehind);
        onFolder("Promise 4: throws IndexOutOfBoundsException if it is not in the archive", "takeOut",
                Archive::takeOut);
        SENTENCES.holds("Promises 3 and 4: no folder is in an empty archive", ThrowsTest::emptyArchive,
                Breaks.accepting("putBehind", 0), Breaks.accepting("takeOut", 0), Breaks.accepting("takeOut", -1));
    }

    private static void emptyArchive(Trial t) {
        for (int number : new int[] {-1, 0, 1, Integer.MAX_VALUE, Integer.MIN_VALUE}) {
            Archive x = t.fresh();
            x.passDay();
            t.outOfBounds("new: putBehind(" + number + ")", () -> x.putBehind(number));
            t.outOfBounds("new: takeOut(" + number + ")", () -> x.takeOut(number));
        }
        Archive x = t.fresh();
        x.takeOut(x.putFirst());
        x.passDay();
        t.outOfBounds("emptied: putBehind(0)", () -> x.putBehind(0));
        t.outOfBounds("emptied: takeOut(0)", () -> x.takeOut(0));
        t.same("emptied: size()", 0, x.size());
    }

    private static void carry() {
        onArgument("Promise 5: throws IndexOutOfBoundsException if the folder is not in the archive", "carry",
                (x, folder) -> x.carry(folder, 2), FOLDERS_IN, FOLDERS_OUT, null, 2);
        onArgument("Promise 5: throws IndexOutOfBoundsException if the other one is not in the archive", "carry",
                (x, other) -> x.carry(2, other), FOLDERS_IN, FOLDERS_OUT, 2, null);
        SENTENCES.holds("Promise 5: (lifted out only if it can be put in)", ThrowsTest::carryToNowhere,
                () -> new Model() {
                    @Override
                    public int carry(int folder, int other) {
                        known(folder);
                        lift(folder);
                        return super.carry(folder, other);
                    }
                });
        SENTENCES.holds("Promise 5: throws IllegalArgumentException if both are the same", ThrowsTest::carryTheSame,
                Breaks.accepting("carry", 1, 1), Breaks.accepting("carry", 8, 8),
                Breaks.wrongly(new IndexOutOfBoundsException(), "carry", 3, 3),
                Breaks.wrongly(new IllegalArgumentException(), "carry", 8, 7),
                () -> new Model() {
                    @Override
                    public int carry(int folder, int other) {
                        if (folder == other) {
                            takeOut(folder);
                            throw new IllegalArgumentException();
                        }
                        return super.carry(folder, other);
                    }
                });
    }

    private static void carryToNowhere(Trial t) {
        Archive x = t.allPutLast(3);
        t.outOfBounds("carry(1, 3)", () -> x.carry(1, 3));
        t.order(x, "as it was", 0, 1, 2);
        t.marks(x, "as it was", 127, 191, 223);
    }

    private static void carryTheSame(Trial t) {
        for (int folder : FOLDERS_IN) {
            Archive x = t.fresh();
            tenCame(x);
            t.illegalArgument("carry(" + folder + ", " + folder + ")", () -> x.carry(folder, folder));
        }
        changesNothing(t, "carry of the same", ThrowsTest::tenCame, x -> {
            for (int folder : FOLDERS_IN) {
                Checks.told(() -> x.carry(folder, folder));
            }
        }, ThrowsTest::goOn);
        Archive x = t.fresh();
        tenCame(x);
        t.same("carry(8, 7)", "253", Checks.told(() -> x.carry(8, 7)));
        t.no("carry(7, 8)", Checks.told(() -> x.carry(7, 8)).startsWith("throws"));
    }

    private static void withoutRoom() {
        SENTENCES.holds("Promise 2: throws IllegalStateException if 60 are in the archive",
                t -> withSixty(t, "putFirst", Archive::putFirst), breaksWithoutRoom("putFirst"));
        SENTENCES.holds("Promises 2 and 3: (a new folder that is refused uses up no number)",
                t -> {
                    withSixty(t, "putFirst", Archive::putFirst);
                    withSixty(t, "putBehind", x -> x.putBehind(0));
                },
                Breaks.usingUpANumber("putFirst"), Breaks.usingUpANumber("putBehind"));
        SENTENCES.holds("Promise 2: throws IllegalStateException if 200 have come",
                t -> withTwoHundred(t, "putFirst", Archive::putFirst), breaksWithoutRoom("putFirst"));
        for (int folder : new int[] {0, 59}) {
            SENTENCES.holds("Promise 3: throws IllegalStateException if 60 are in the archive, behind " + folder,
                    t -> withSixty(t, "putBehind", x -> x.putBehind(folder)), breaksWithoutRoom("putBehind", folder));
        }
        for (int folder : new int[] {0, 199}) {
            SENTENCES.holds("Promise 3: throws IllegalStateException if 200 have come, behind " + folder,
                    t -> withTwoHundred(t, "putBehind", x -> x.putBehind(folder == 0 ? 0 : x.next(0))),
                    breaksWithoutRoom("putBehind", folder));
        }
    }

    private interface Coming {
        int come(Archive x);
    }

    private static Trial.Maker[] breaksWithoutRoom(String method, Integer... row) {
        return new Trial.Maker[] {
                () -> limitOf(method, 199, 59), () -> limitOf(method, 201, 61), Breaks.passingADay(method),
                Breaks.wrongly(new IndexOutOfBoundsException(), method, row)
        };
    }

    /** Both limits are others than due, but for one of the two methods alone, and from the first day on. */
    private static Model limitOf(String method, int inAll, int atATime) {
        return new Model() {
            private String called = "";
            private boolean hasDayPassed;

            @Override
            int inAll() {
                return hasDayPassed && called.equals(method) ? inAll : super.inAll();
            }

            @Override
            int atATime() {
                return hasDayPassed && called.equals(method) ? atATime : super.atATime();
            }

            @Override
            public int passDay() {
                hasDayPassed = true;
                return super.passDay();
            }

            @Override
            public int putFirst() {
                called = "putFirst";
                return super.putFirst();
            }

            @Override
            public int putBehind(int folder) {
                called = "putBehind";
                return super.putBehind(folder);
            }
        };
    }

    private static void withSixty(Trial t, String what, Coming coming) {
        Archive x = t.fresh();
        sixtyCame(x);
        t.illegalState("60 in: " + what, () -> coming.come(x));
        x.takeOut(30);
        t.same("59 in: " + what, "60", Checks.told(() -> coming.come(x)));
        t.illegalState("60 in again: " + what, () -> coming.come(x));
        changesNothing(t, "60 in: " + what, ThrowsTest::sixtyCame, y -> Checks.told(() -> coming.come(y)), y -> {
            y.takeOut(3);
            y.putFirst();
        });
    }

    private static void withTwoHundred(Trial t, String what, Coming coming) {
        Archive x = t.afterManyCame(199);
        x.carry(0, 198);
        x.carry(198, 0);
        x.passDay();
        t.same("199 came: " + what, "199", Checks.told(() -> coming.come(x)));
        t.illegalState("200 came: " + what, () -> coming.come(x));
        x.takeOut(198);
        t.illegalState("200 came, two in: " + what, () -> coming.come(x));
        changesNothing(t, "200 came: " + what, ThrowsTest::allCame, y -> Checks.told(() -> coming.come(y)),
                y -> y.carry(0, 199));
    }

    // The order, marks.

    private static void askingForAFolder() {
        onFolder("Promise 8: throws IndexOutOfBoundsException if it is not in the archive", "next", Archive::next);
        onFolder("Promise 9: throws IndexOutOfBoundsException if it is not in the archive", "previous",
                Archive::previous);
        onFolder("Promise 11: throws IndexOutOfBoundsException if it is not in the archive", "mark", Archive::mark);
        onFolder("Promise 12: throws IndexOutOfBoundsException if it is not in the archive", "ahead", Archive::ahead);
        onFolder("Promise 14: throws IndexOutOfBoundsException if it is not in the archive", "gapBehind",
                Archive::gapBehind);
        onFolder("Promise 17: throws IndexOutOfBoundsException if it is not in the archive", "wouldMove",
                Archive::wouldMove);
    }

    // Shelves.

    private static void levels() {
        onArgument("Promise 15: level 0 to 8, else it throws IndexOutOfBoundsException", "load",
                (x, level) -> x.load(level, 0), LEVELS_IN, LEVELS_OUT, null, 0);
        onArgument("Promise 16: throws IndexOutOfBoundsException if there is no such level", "loaded",
                Archive::loaded, LEVELS_IN, LEVELS_OUT, (Integer) null);
        onArgument("Promise 19: throws IndexOutOfBoundsException if there is no such level", "spread",
                Archive::spread, LEVELS_IN, LEVELS_OUT, (Integer) null);
    }

    private static void shelves() {
        for (int each = 0; each < 9; each++) {
            int level = each;
            int shelves = 256 >> level;
            int[] in = {0, shelves - 1};
            int[] out = {-1, shelves, shelves + 1, -shelves, Integer.MAX_VALUE, Integer.MIN_VALUE,
                    Integer.MIN_VALUE >> level, (Integer.MAX_VALUE >> level) + 1};
            onArgument("Promise 15: throws IndexOutOfBoundsException if there is no such shelf of level " + level,
                    "load", (x, shelf) -> x.load(level, shelf), in, out, level, null);
        }
        SENTENCES.holds("Promise 15: throws IndexOutOfBoundsException if neither level nor shelf is there",
                ThrowsTest::noLevelAndNoShelf,
                Breaks.accepting("load", -1, -1), Breaks.accepting("load", 9, 256),
                Breaks.accepting("load", Integer.MIN_VALUE, Integer.MIN_VALUE));
    }

    private static void noLevelAndNoShelf(Trial t) {
        Archive x = t.allPutFirst(8);
        x.passDay();
        for (int level : new int[] {-1, 9, Integer.MAX_VALUE, Integer.MIN_VALUE}) {
            for (int shelf : new int[] {-1, 1, 256, Integer.MAX_VALUE, Integer.MIN_VALUE}) {
                t.outOfBounds("load(" + level + ", " + shelf + ")", () -> x.load(level, shelf));
            }
        }
    }

    // Readers.

    private static void readers() {
        onArgument("Promise 20: throws IndexOutOfBoundsException if there is no such reader", "seat",
                (x, reader) -> x.seat(reader, 3), READERS_IN, READERS_OUT, null, 3);
        onArgument("Promise 20: throws IndexOutOfBoundsException if the folder is not in the archive", "seat",
                (x, folder) -> x.seat(0, folder), FOLDERS_IN, FOLDERS_OUT, 0, null);
        SENTENCES.holds("Promise 20: (a reader that is refused a folder stays where it was)", ThrowsTest::staysSeated,
                () -> new Model() {
                    @Override
                    public int seat(int reader, int folder) {
                        within(reader, 4);
                        seats[reader] = NONE;
                        return super.seat(reader, folder);
                    }
                });
        onArgument("Promise 22: throws IndexOutOfBoundsException if there is no such reader", "at", Archive::at,
                READERS_IN, READERS_OUT, (Integer) null);
        onArgument("Promise 23: throws IndexOutOfBoundsException if there is no such reader", "read", Archive::read,
                READERS_IN, READERS_OUT, (Integer) null);
        onArgument("Promise 24: throws IndexOutOfBoundsException if there is no such reader", "daysTo",
                (x, reader) -> x.daysTo(reader, 1), READERS_IN, READERS_OUT, null, 1);
        onArgument("Promise 24: throws IndexOutOfBoundsException if there is no such other reader", "daysTo",
                (x, other) -> x.daysTo(3, other), READERS_IN, READERS_OUT, 3, null);
        SENTENCES.holds("Promises 20 and 24: both arguments are wrong", ThrowsTest::bothWrong,
                Breaks.accepting("daysTo", 4, 4), Breaks.accepting("daysTo", -1, -1),
                Breaks.accepting("seat", 4, -1), Breaks.accepting("seat", -1, 9));
    }

    private static void staysSeated(Trial t) {
        Archive x = t.allPutLast(3);
        x.seat(0, 1);
        t.outOfBounds("seat(0, 3)", () -> x.seat(0, 3));
        t.same("at(0)", 1, x.at(0));
        t.outOfBounds("seat(3, -1), which is at none", () -> x.seat(3, -1));
        t.same("at(3)", -1, x.at(3));
    }

    private static void bothWrong(Trial t) {
        Archive x = t.allPutLast(3);
        x.passDay();
        for (int one : new int[] {-1, 4, Integer.MAX_VALUE, Integer.MIN_VALUE}) {
            for (int other : new int[] {-1, 4, 9, Integer.MAX_VALUE, Integer.MIN_VALUE}) {
                t.outOfBounds("daysTo(" + one + ", " + other + ")", () -> x.daysTo(one, other));
                t.outOfBounds("seat(" + one + ", " + other + ")", () -> x.seat(one, other));
            }
        }
    }
}
