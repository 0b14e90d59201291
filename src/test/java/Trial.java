/** What a test of one sentence works with: new archives of one maker, and what was found wrong with them. */
final class Trial {
    interface Maker {
        Archive make();
    }

    private static final int STEPS = 300;

    private final Maker maker;
    final Checks checks = new Checks();

    Trial(Maker maker) {
        this.maker = maker;
    }

    Archive fresh() {
        return maker.make();
    }

    void same(String what, long want, long got) {
        checks.same(what, want, got);
    }

    void same(String what, String want, String got) {
        checks.same(what, want, got);
    }

    void yes(String what, boolean got) {
        checks.same(what, 1, got ? 1 : 0);
    }

    void no(String what, boolean got) {
        checks.same(what, 0, got ? 1 : 0);
    }

    void outOfBounds(String what, Checks.Call call) {
        checks.outOfBounds(what, call);
    }

    void illegalState(String what, Checks.Call call) {
        checks.illegalState(what, call);
    }

    void illegalArgument(String what, Checks.Call call) {
        checks.illegalArgument(what, call);
    }

    void order(Archive x, String what, int... want) {
        StringBuilder got = new StringBuilder();
        int folder = x.first();
        for (int i = 0; i < STEPS && folder != -1; i++) {
            got.append(folder).append(' ');
            folder = x.next(folder);
        }
        same(what + ", the order", row(want), got.toString());
        same(what + ", size", want.length, x.size());
    }

    void marks(Archive x, String what, int... want) {
        StringBuilder got = new StringBuilder();
        int folder = x.first();
        for (int i = 0; i < STEPS && folder != -1; i++) {
            got.append(x.mark(folder)).append(' ');
            folder = x.next(folder);
        }
        same(what + ", the marks", row(want), got.toString());
    }

    private static String row(int... numbers) {
        StringBuilder text = new StringBuilder();
        for (int number : numbers) {
            text.append(number).append(' ');
        }
        return text.toString();
    }

    void spreads(Archive x, String what, int... want) {
        for (int level = 0; level < 9; level++) {
            same(what + ", spread(" + level + ")", want[level], x.spread(level));
        }
    }

    /** Folders 0 to n - 1, where each comes first: 127, 63, 31, 15, 7, 3, 1, 0 are the marks of the first eight. */
    Archive allPutFirst(int n) {
        Archive x = fresh();
        for (int i = 0; i < n; i++) {
            same("putFirst() no. " + i, i, x.putFirst());
        }
        return x;
    }

    /** Folders 0 to n - 1, where each comes last: 127, 191, 223, 239, 247, 251, 253, 254, 255 for the first nine. */
    Archive allPutLast(int n) {
        Archive x = fresh();
        same("putFirst()", 0, x.putFirst());
        for (int i = 1; i < n; i++) {
            same("putBehind() no. " + i, i, x.putBehind(i - 1));
        }
        return x;
    }

    /** Folders 0 to n - 1, each behind 0: 127, 191, 159, 143, 135, 131, 129, 128 are the marks of the first eight. */
    Archive allBehindTheFirst(int n) {
        Archive x = fresh();
        same("putFirst()", 0, x.putFirst());
        for (int i = 1; i < n; i++) {
            same("putBehind(0) no. " + i, i, x.putBehind(0));
        }
        return x;
    }

    /** 16 folders, from the lowest mark: 7 6 5 4 3 2 1 0 as allPutFirst(8), then 8 to 15 up to mark 255. */
    Archive atBothEnds() {
        Archive x = allPutFirst(8);
        x.putBehind(0);
        for (int i = 9; i < 16; i++) {
            same("putBehind() no. " + i, i, x.putBehind(i - 1));
        }
        return x;
    }

    /** The folders 0 and the last of n, one ahead of the other; those in between came and went. Takes 2n - 2 calls. */
    Archive afterManyCame(int n) {
        Archive x = fresh();
        x.putFirst();
        for (int i = 1; i < n - 1; i++) {
            x.takeOut(x.putBehind(0));
        }
        same("the last that came", n - 1, x.putFirst());
        return x;
    }
}
