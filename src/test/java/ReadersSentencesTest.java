import java.util.HashSet;
import java.util.Set;
import java.util.function.IntUnaryOperator;

/** The sentences of "Terms" on readers, and of the promises 20 to 24, but for what a call throws (ThrowsTest). */
public final class ReadersSentencesTest {
    private static final Sentences SENTENCES = new Sentences("ReadersSentencesTest");

    public static void main(String[] args) {
        fourReaders();
        onEachDay();
        whatever();
        takenOut();
        seat();
        passDayAndAt();
        read();
        daysTo();
        daysToNever();
        SENTENCES.end();
    }

    private static void fourReaders() {
        SENTENCES.holds("Terms: there are 4 readers, 0 to 3", ReadersSentencesTest::fourOfThem,
                Breaks.refusing("seat", 3, 3), Breaks.refusing("seat", 0, 0),
                () -> new Model() {
                    @Override
                    public int seat(int reader, int folder) {
                        return super.seat(reader % 3, folder);
                    }
                });
        SENTENCES.holds("Terms: each at a folder, or at none (as at first)", ReadersSentencesTest::atNoneAtFirst,
                () -> new Model() {
                    @Override
                    public int putFirst() {
                        int folder = super.putFirst();
                        if (came == 1) {
                            seats[3] = folder;
                        }
                        return folder;
                    }
                },
                () -> new Model() {
                    @Override
                    public int at(int reader) {
                        return Math.max(0, super.at(reader));
                    }
                });
    }

    private static void fourOfThem(Trial t) {
        Archive x = t.allPutLast(4);
        x.passDay();
        for (int reader = 0; reader < 4; reader++) {
            t.same("seat(" + reader + ", " + reader + ")", 1, x.seat(reader, reader));
        }
        for (int reader = 0; reader < 4; reader++) {
            t.same("at(" + reader + ")", reader, x.at(reader));
        }
    }

    private static void atNoneAtFirst(Trial t) {
        Archive x = t.allPutLast(2);
        for (int reader = 0; reader < 4; reader++) {
            t.same("at(" + reader + ") at first", -1, x.at(reader));
        }
        x.seat(1, 0);
        t.same("at(1) at a folder", 0, x.at(1));
        t.same("at(0)", -1, x.at(0));
        t.same("at(2)", -1, x.at(2));
    }

    private static void onEachDay() {
        SENTENCES.holds("Terms: on each day a reader at a folder has read it", ReadersSentencesTest::hasReadIt,
                () -> new Model() {
                    @Override
                    public int passDay() {
                        for (int reader = 0; reader < 4; reader++) {
                            reads[reader] += seats[reader] == NONE ? 1 : 0;
                        }
                        return super.passDay();
                    }
                },
                () -> new Model() {
                    @Override
                    public int passDay() {
                        int left = super.passDay();
                        reads[0] = 0;
                        return left;
                    }
                });
        SENTENCES.holds("Terms: and goes on to the next one", ReadersSentencesTest::goesOn,
                () -> new Model() {
                    @Override
                    public int passDay() {
                        for (int reader = 0; reader < 4; reader++) {
                            seats[reader] = seats[reader] == NONE ? NONE : previous(seats[reader]);
                        }
                        return super.passDay();
                    }
                },
                () -> new Model() {
                    @Override
                    public int passDay() {
                        super.passDay();
                        return super.passDay();
                    }
                });
        SENTENCES.holds("Terms: from the last one a reader leaves", ReadersSentencesTest::leaves,
                () -> fromTheLast(true), () -> fromTheLast(false));
        SENTENCES.holds("Terms: (and has read the last one, too)", ReadersSentencesTest::hasReadTheLast,
                () -> new Model() {
                    @Override
                    public int passDay() {
                        for (int reader = 0; reader < 4; reader++) {
                            boolean isAtTheLast = seats[reader] != NONE && next(seats[reader]) == NONE;
                            reads[reader] -= isAtTheLast ? 1 : 0;
                        }
                        return super.passDay();
                    }
                });
    }

    /** From the last one a reader goes to the first one again, or stays there. */
    private static Model fromTheLast(boolean isFirstNext) {
        return new Model() {
            @Override
            public int passDay() {
                int[] before = seats.clone();
                super.passDay();
                int left = 0;
                for (int reader = 0; reader < 4; reader++) {
                    boolean hasLeft = before[reader] != NONE && seats[reader] == NONE;
                    seats[reader] = hasLeft ? isFirstNext ? first() : before[reader] : seats[reader];
                    left += seats[reader] == NONE ? 0 : 1;
                }
                return left;
            }
        };
    }

    private static void hasReadIt(Trial t) {
        Archive x = t.allPutLast(3);
        x.seat(0, 0);
        x.seat(2, 1);
        t.same("read(0) on the first day", 0, x.read(0));
        x.passDay();
        t.same("read(0)", 1, x.read(0));
        t.same("read(2)", 1, x.read(2));
        t.same("read(1), at none", 0, x.read(1));
        x.passDay();
        t.same("read(0) behind two days", 2, x.read(0));
    }

    private static void goesOn(Trial t) {
        Archive x = t.allPutFirst(4);
        x.seat(0, 3);
        x.seat(1, 2);
        x.passDay();
        t.same("at(0)", 2, x.at(0));
        t.same("at(1)", 1, x.at(1));
        x.passDay();
        t.same("at(0) behind two days", 1, x.at(0));
        t.same("at(1) behind two days", 0, x.at(1));
        t.same("at(2), at none", -1, x.at(2));
    }

    private static void leaves(Trial t) {
        Archive x = t.allPutLast(2);
        x.seat(0, 1);
        x.seat(3, 1);
        x.passDay();
        t.same("at(0)", -1, x.at(0));
        t.same("at(3)", -1, x.at(3));
        Archive y = t.allPutLast(1);
        y.seat(0, 0);
        y.passDay();
        t.same("from the only one", -1, y.at(0));
    }

    private static void hasReadTheLast(Trial t) {
        Archive x = t.allPutLast(2);
        x.seat(0, 1);
        x.passDay();
        t.same("read(0)", 1, x.read(0));
        x.passDay();
        t.same("read(0) after it has left", 1, x.read(0));
    }

    private static void whatever() {
        SENTENCES.holds("Terms: one a day, whatever happens to marks meanwhile", ReadersSentencesTest::whateverHappens,
                () -> new Model() {
                    @Override
                    public int putFirst() {
                        int[] seatMarks = new int[4];
                        for (int reader = 0; reader < 4; reader++) {
                            seatMarks[reader] = seats[reader] == NONE ? 256 : mark(seats[reader]);
                        }
                        int folder = super.putFirst();
                        for (int reader = 0; reader < 4; reader++) {
                            seats[reader] = from(seatMarks[reader]);
                        }
                        return folder;
                    }
                });
    }

    /** Folder 6 moves from mark 1 to 3, which folder 5 had. */
    private static void whateverHappens(Trial t) {
        Archive x = t.allPutFirst(8);
        x.seat(0, 6);
        x.seat(1, 4);
        x.putFirst();
        t.same("it is moved", 3, x.mark(6));
        t.same("at(0)", 6, x.at(0));
        t.same("at(1)", 4, x.at(1));
        t.same("read(0)", 0, x.read(0));
        x.passDay();
        t.same("at(0) on the next day", 5, x.at(0));
        t.same("at(1) on the next day", 3, x.at(1));
    }

    private static void takenOut() {
        SENTENCES.holds("Terms: when a folder is taken out, readers at it go on to the next one at once",
                ReadersSentencesTest::goOnAtOnce,
                () -> whenTakenOut(folder -> -1, 4), () -> whenTakenOut(folder -> 0, 4),
                () -> whenTakenOut(folder -> folder - 1, 4), () -> whenTakenOut(folder -> -1, 1));
        SENTENCES.holds("Terms: when the last one is taken out, readers at it leave",
                ReadersSentencesTest::leaveAtOnce,
                () -> whenTakenOut(folder -> 0, 4), () -> whenTakenOut(folder -> folder - 1, 4));
        SENTENCES.holds("Terms: without having read it", ReadersSentencesTest::withoutHavingReadIt,
                () -> new Model() {
                    @Override
                    public int takeOut(int folder) {
                        for (int reader = 0; reader < 4; reader++) {
                            reads[reader] += seats[reader] == folder ? 1 : 0;
                        }
                        return super.takeOut(folder);
                    }
                });
    }

    /** So many of the readers go elsewhere than to the next one, when their folder is taken out. */
    private static Model whenTakenOut(IntUnaryOperator elsewhere, int readers) {
        return new Model() {
            @Override
            public int takeOut(int folder) {
                known(folder);
                for (int reader = 0; reader < readers; reader++) {
                    seats[reader] = seats[reader] == folder ? elsewhere.applyAsInt(folder) : seats[reader];
                }
                return super.takeOut(folder);
            }
        };
    }

    private static void goOnAtOnce(Trial t) {
        Archive x = t.allPutLast(4);
        x.seat(0, 1);
        x.seat(1, 1);
        x.seat(2, 2);
        x.seat(3, 0);
        x.takeOut(1);
        t.same("at(0)", 2, x.at(0));
        t.same("at(1)", 2, x.at(1));
        t.same("at(2), of another folder", 2, x.at(2));
        t.same("at(3), of another folder", 0, x.at(3));
        x.passDay();
        t.same("at(0) on the next day", 3, x.at(0));
        x.takeOut(2);
        t.same("at(3), who went on to 2 over the gap", 3, x.at(3));
    }

    private static void leaveAtOnce(Trial t) {
        Archive x = t.allPutLast(3);
        x.seat(0, 2);
        x.seat(2, 2);
        x.takeOut(2);
        t.same("at(0)", -1, x.at(0));
        t.same("at(2)", -1, x.at(2));
        t.same("passDay()", 0, x.passDay());
        Archive y = t.allPutLast(1);
        y.seat(1, 0);
        y.takeOut(0);
        t.same("at(1), when the only one is taken out", -1, y.at(1));
        y.putFirst();
        t.same("at(1), when another one comes", -1, y.at(1));
    }

    private static void withoutHavingReadIt(Trial t) {
        Archive x = t.allPutLast(3);
        x.seat(0, 1);
        x.seat(1, 2);
        x.takeOut(1);
        t.same("read(0)", 0, x.read(0));
        x.takeOut(2);
        t.same("read(0), at none", 0, x.read(0));
        t.same("read(1), at none", 0, x.read(1));
    }

    private static void seat() {
        SENTENCES.holds("Promise 20: a reader begins at a folder", ReadersSentencesTest::beginsAt,
                () -> new Model() {
                    @Override
                    public int seat(int reader, int folder) {
                        within(reader, 4);
                        known(folder);
                        return readersAt(folder) + 1;
                    }
                },
                () -> new Model() {
                    @Override
                    public int seat(int reader, int folder) {
                        super.seat(reader, first());
                        return readersAt(folder) + (folder == first() ? 0 : 1);
                    }
                });
        SENTENCES.holds("Promise 20: wherever it was", ReadersSentencesTest::whereverItWas,
                () -> new Model() {
                    @Override
                    public int seat(int reader, int folder) {
                        return seats[reader] == NONE ? super.seat(reader, folder) : readersAt(folder);
                    }
                },
                () -> new Model() {
                    @Override
                    public int seat(int reader, int folder) {
                        if (reads[reader] > 0) {
                            throw new IndexOutOfBoundsException();
                        }
                        return super.seat(reader, folder);
                    }
                });
        SENTENCES.holds("Promise 20: returns how many readers are at that folder then",
                ReadersSentencesTest::seatReturns,
                () -> new Model() {
                    @Override
                    public int seat(int reader, int folder) {
                        int before = readersAt(folder);
                        super.seat(reader, folder);
                        return before;
                    }
                },
                () -> new Model() {
                    @Override
                    public int seat(int reader, int folder) {
                        int before = readersAt(folder);
                        super.seat(reader, folder);
                        return before + 1;
                    }
                },
                () -> new Model() {
                    @Override
                    public int seat(int reader, int folder) {
                        super.seat(reader, folder);
                        return 4 - readersAt(NONE);
                    }
                });
    }

    private static void beginsAt(Trial t) {
        Archive x = t.allPutLast(3);
        x.seat(0, 2);
        x.seat(3, 1);
        t.same("at(0)", 2, x.at(0));
        t.same("at(3)", 1, x.at(3));
        t.same("at(1)", -1, x.at(1));
    }

    private static void whereverItWas(Trial t) {
        Archive x = t.allPutLast(3);
        x.seat(0, 2);
        x.seat(0, 0);
        t.same("from another folder", 0, x.at(0));
        x.seat(0, 0);
        t.same("from the same folder", 0, x.at(0));
        x.passDay();
        x.passDay();
        x.passDay();
        t.same("it has left", -1, x.at(0));
        x.seat(0, 1);
        t.same("from none", 1, x.at(0));
    }

    private static void seatReturns(Trial t) {
        Archive x = t.allPutLast(3);
        t.same("one at 1", 1, x.seat(0, 1));
        t.same("two at 1", 2, x.seat(3, 1));
        t.same("one at 2", 1, x.seat(1, 2));
        t.same("again at 1", 2, x.seat(3, 1));
        t.same("three at 1", 3, x.seat(2, 1));
        t.same("all at 1", 4, x.seat(1, 1));
        t.same("one at 0", 1, x.seat(0, 0));
    }

    private static void passDayAndAt() {
        SENTENCES.holds("Promise 21: returns how many readers are still at a folder", ReadersSentencesTest::stillThere,
                () -> new Model() {
                    @Override
                    public int passDay() {
                        int before = 4 - readersAt(NONE);
                        super.passDay();
                        return before;
                    }
                },
                () -> new Model() {
                    @Override
                    public int passDay() {
                        return Math.min(1, super.passDay());
                    }
                },
                () -> new Model() {
                    @Override
                    public int passDay() {
                        super.passDay();
                        return 4;
                    }
                });
        SENTENCES.holds("Promise 22: returns the folder; -1 if at none", ReadersSentencesTest::atNone,
                () -> new Model() {
                    private int last = -1;

                    @Override
                    public int at(int reader) {
                        last = super.at(reader) == NONE ? last : super.at(reader);
                        return last;
                    }
                },
                () -> new Model() {
                    @Override
                    public int at(int reader) {
                        int folder = super.at(reader);
                        return folder == 0 ? NONE : folder;
                    }
                });
    }

    private static void stillThere(Trial t) {
        Archive x = t.allPutLast(3);
        t.same("none was there", 0, x.passDay());
        x.seat(0, 0);
        x.seat(1, 1);
        x.seat(2, 2);
        t.same("one leaves", 2, x.passDay());
        t.same("another one", 1, x.passDay());
        t.same("the last one", 0, x.passDay());
        t.same("none is there", 0, x.passDay());
        for (int reader = 0; reader < 4; reader++) {
            x.seat(reader, 0);
        }
        t.same("all four", 4, x.passDay());
    }

    private static void atNone(Trial t) {
        Archive x = t.allPutLast(2);
        t.same("at first", -1, x.at(0));
        x.seat(0, 0);
        t.same("at folder 0", 0, x.at(0));
        x.passDay();
        t.same("at folder 1", 1, x.at(0));
        x.passDay();
        t.same("it has left", -1, x.at(0));
    }

    private static void read() {
        SENTENCES.holds("Promise 23: how many folders a reader has read so far", ReadersSentencesTest::readSoFar,
                () -> new Model() {
                    @Override
                    public int seat(int reader, int folder) {
                        int count = super.seat(reader, folder);
                        reads[reader] = 0;
                        return count;
                    }
                },
                () -> new Model() {
                    @Override
                    public int read(int reader) {
                        return super.at(reader) == NONE ? 0 : super.read(reader);
                    }
                },
                () -> new Model() {
                    @Override
                    public int read(int reader) {
                        return Math.min(came, super.read(reader) + (super.at(reader) == NONE ? 0 : 1));
                    }
                });
        SENTENCES.holds("Promise 23: a folder as often as it was read", ReadersSentencesTest::asOften,
                () -> new Model() {
                    private final Set<Integer> those = new HashSet<>();

                    @Override
                    public int passDay() {
                        those.add(seats[0]);
                        return super.passDay();
                    }

                    @Override
                    public int read(int reader) {
                        those.remove(NONE);
                        return those.size();
                    }
                });
    }

    private static void readSoFar(Trial t) {
        Archive x = t.allPutLast(4);
        x.seat(0, 1);
        t.same("none", 0, x.read(0));
        x.passDay();
        t.same("1", 1, x.read(0));
        x.seat(0, 0);
        t.same("a seat reads nothing and forgets nothing", 1, x.read(0));
        x.passDay();
        x.seat(0, 3);
        x.passDay();
        t.same("1, 0 and 3", 3, x.read(0));
        t.same("it has left", -1, x.at(0));
        x.takeOut(1);
        t.same("also one that is taken out since", 3, x.read(0));
        t.same("another reader", 0, x.read(1));
    }

    private static void asOften(Trial t) {
        Archive x = t.allPutLast(1);
        for (int times = 1; times <= 3; times++) {
            x.seat(0, 0);
            x.passDay();
            t.same("folder 0 again", times, x.read(0));
        }
    }

    private static void daysTo() {
        SENTENCES.holds("Promise 24: behind how many days a reader would be where another one is now",
                ReadersSentencesTest::daysToAnother,
                () -> new Model() {
                    @Override
                    public int daysTo(int reader, int other) {
                        int days = super.daysTo(reader, other);
                        return days > 0 ? days + 1 : days;
                    }
                },
                () -> new Model() {
                    @Override
                    public int daysTo(int reader, int other) {
                        int days = super.daysTo(reader, other);
                        return days > 0 ? Math.abs(seats[other] - seats[reader]) : days;
                    }
                },
                () -> new Model() {
                    @Override
                    public int daysTo(int reader, int other) {
                        return super.daysTo(other, reader);
                    }
                });
        SENTENCES.holds("Promise 24: if nothing else happens (it changes nothing)",
                ReadersSentencesTest::daysToChangesNothing,
                () -> new Model() {
                    @Override
                    public int daysTo(int reader, int other) {
                        int days = super.daysTo(reader, other);
                        for (int day = 0; day < days; day++) {
                            passDay();
                        }
                        return days;
                    }
                });
        SENTENCES.holds("Promise 24: 0 for the same folder", ReadersSentencesTest::daysToTheSame,
                () -> new Model() {
                    @Override
                    public int daysTo(int reader, int other) {
                        return reader == other ? NONE : super.daysTo(reader, other);
                    }
                },
                () -> new Model() {
                    @Override
                    public int daysTo(int reader, int other) {
                        int days = super.daysTo(reader, other);
                        return days == 0 && reader != other ? 1 : days;
                    }
                });
    }

    private static void daysToAnother(Trial t) {
        Archive x = t.allPutLast(5);
        x.seat(0, 0);
        x.seat(1, 4);
        x.seat(2, 1);
        t.same("from the first to the last", 4, x.daysTo(0, 1));
        t.same("to the next one", 1, x.daysTo(0, 2));
        t.same("from there", 3, x.daysTo(2, 1));
        x.takeOut(3);
        t.same("without one in between", 3, x.daysTo(0, 1));
        x.carry(0, 2);
        t.same("carried to one ahead of it", 1, x.daysTo(0, 1));
        x.passDay();
        t.same("at(0), a day later", 4, x.at(0));
    }

    private static void daysToChangesNothing(Trial t) {
        Archive x = t.allPutLast(5);
        x.seat(0, 0);
        x.seat(1, 2);
        t.same("daysTo(0, 1)", 2, x.daysTo(0, 1));
        t.same("daysTo(0, 1) again", 2, x.daysTo(0, 1));
        t.same("at(0)", 0, x.at(0));
        t.same("at(1)", 2, x.at(1));
        t.same("read(0)", 0, x.read(0));
        x.passDay();
        x.passDay();
        t.same("at(0), where the other one was", 2, x.at(0));
    }

    private static void daysToTheSame(Trial t) {
        Archive x = t.allPutLast(3);
        x.seat(0, 1);
        x.seat(3, 1);
        t.same("another reader", 0, x.daysTo(0, 3));
        t.same("from there", 0, x.daysTo(3, 0));
        t.same("itself", 0, x.daysTo(0, 0));
        t.same("itself, the highest", 0, x.daysTo(3, 3));
    }

    private static void daysToNever() {
        SENTENCES.holds("Promise 24: -1 if never", ReadersSentencesTest::never,
                () -> new Model() {
                    @Override
                    public int daysTo(int reader, int other) {
                        return Math.max(super.daysTo(reader, other), super.daysTo(other, reader));
                    }
                },
                () -> new Model() {
                    @Override
                    public int daysTo(int reader, int other) {
                        return order.indexOf(seats[other]) - order.indexOf(seats[reader]);
                    }
                });
        SENTENCES.holds("Promise 24: -1 if the reader is at none", ReadersSentencesTest::readerAtNone,
                () -> new Model() {
                    @Override
                    public int daysTo(int reader, int other) {
                        return order.indexOf(seats[other]) - order.indexOf(seats[reader]);
                    }
                });
        SENTENCES.holds("Promise 24: -1 if the other one is at none", ReadersSentencesTest::otherAtNone,
                () -> new Model() {
                    @Override
                    public int daysTo(int reader, int other) {
                        boolean leaves = seats[reader] != NONE && seats[other] == NONE;
                        return leaves ? order.size() - order.indexOf(seats[reader]) : super.daysTo(reader, other);
                    }
                });
        SENTENCES.holds("Promise 24: -1 if both are at none", ReadersSentencesTest::bothAtNone,
                () -> new Model() {
                    @Override
                    public int daysTo(int reader, int other) {
                        return seats[reader] == seats[other] ? 0 : super.daysTo(reader, other);
                    }
                });
    }

    private static void never(Trial t) {
        Archive x = t.allPutLast(4);
        x.seat(0, 1);
        x.seat(1, 0);
        x.seat(2, 3);
        t.same("one behind", -1, x.daysTo(0, 1));
        t.same("from the last one to the first one", -1, x.daysTo(2, 1));
        t.same("from the last one", -1, x.daysTo(2, 0));
    }

    private static void readerAtNone(Trial t) {
        Archive x = t.allPutLast(3);
        x.seat(0, 0);
        t.same("to the first one", -1, x.daysTo(1, 0));
        x.seat(0, 2);
        t.same("to the last one", -1, x.daysTo(1, 0));
    }

    private static void otherAtNone(Trial t) {
        Archive x = t.allPutLast(3);
        x.seat(0, 0);
        t.same("from the first one", -1, x.daysTo(0, 1));
        x.seat(0, 2);
        t.same("from the last one", -1, x.daysTo(0, 1));
    }

    private static void bothAtNone(Trial t) {
        Archive x = t.allPutLast(3);
        t.same("two readers", -1, x.daysTo(0, 1));
        t.same("itself", -1, x.daysTo(2, 2));
        x.seat(2, 2);
        x.passDay();
        t.same("after it has left", -1, x.daysTo(2, 2));
        t.same("both, after one has left", -1, x.daysTo(2, 0));
    }
}
