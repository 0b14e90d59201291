import java.util.Random;

/** Long mixed runs of calls, the class and the model side by side; the seeds are fixed, so a fault comes again. */
public final class ModelTest {
    private static final Checks CHECKS = new Checks();
    private static final int RUNS = 3000;
    /** So many of an object's calls are left, in some runs, for questions with any numbers. */
    private static final int QUESTIONS = 112;
    private static final int[] EXTREMES =
            {-1, -2, 4, 8, 9, 59, 60, 199, 200, 255, 256, 257, Integer.MAX_VALUE, Integer.MIN_VALUE};

    private final Random random;
    private final Real real = new Real();
    private final Model model = new Model();
    /** How eagerly folders come, in hundredths of the calls; so some runs fill up, others stay small. */
    private final int eagerness;
    /** Whether new folders keep coming at one place, which makes marks scarce there. */
    private final boolean isCrowding;
    private int crowded = -1;
    /** Whether folders go about as often as they come, so that all 200 can come. */
    private final boolean isChanging;

    private ModelTest(int seed) {
        random = new Random(seed);
        eagerness = 15 + random.nextInt(60);
        isCrowding = random.nextBoolean();
        isChanging = random.nextInt(4) == 0;
    }

    public static void main(String[] args) {
        int[] spreads = new int[9];
        int allCame = 0;
        for (int seed = 0; seed < RUNS; seed++) {
            ModelTest run = new ModelTest(seed);
            int mixed = seed % 3 == 0 ? Real.CALLS - QUESTIONS : Real.CALLS;
            for (int i = 0; i < mixed; i++) {
                run.oneCall(seed, i);
            }
            for (int i = mixed; i < Real.CALLS; i++) {
                run.anyQuestion(seed, i);
            }
            allCame += run.model.came == 200 ? 1 : 0;
            for (int level = 0; level < 9; level++) {
                spreads[level] += run.model.spread(level);
            }
        }
        CHECKS.same("all 200 come in some runs", 1, allCame > 0 ? 1 : 0);
        // Runs that never crowd a level would leave its rule untested.
        for (int level = 1; level < 9; level++) {
            CHECKS.same("the runs spread out level " + level, 1, spreads[level] > 0 ? 1 : 0);
        }
        CHECKS.end("ModelTest");
    }

    private int folder() {
        if (random.nextInt(30) == 0) {
            return EXTREMES[random.nextInt(EXTREMES.length)];
        }
        if (model.size() == 0 || random.nextInt(40) == 0) {
            return random.nextInt(70);
        }
        int folder = model.first();
        for (int i = random.nextInt(model.size()); i > 0; i--) {
            folder = model.next(folder);
        }
        return folder;
    }

    private int below(int end) {
        return random.nextInt(25) == 0 ? EXTREMES[random.nextInt(EXTREMES.length)] : random.nextInt(end);
    }

    private void compare(int seed, int i, String call, Checks.Call want, Checks.Call got) {
        CHECKS.same("run " + seed + ", call " + i + ", " + call, toldByModel(want), Checks.told(got));
    }

    private static String toldByModel(Checks.Call call) {
        try {
            return String.valueOf(call.answer());
        } catch (RuntimeException e) {
            return "throws." + e.getClass().getSimpleName();
        }
    }

    private void oneCall(int seed, int i) {
        if (random.nextInt(100) < eagerness) {
            comingCall(seed, i);
            return;
        }
        int f = folder();
        int g = folder();
        if (isChanging && random.nextInt(100) < 85) {
            compare(seed, i, "takeOut(" + f + ")", () -> model.takeOut(f), () -> real.takeOut(f));
            return;
        }
        int r = below(4);
        int s = below(4);
        switch (random.nextInt(12)) {
            case 0 -> compare(seed, i, "takeOut(" + f + ")", () -> model.takeOut(f), () -> real.takeOut(f));
            case 1, 2, 3 -> compare(seed, i, "carry(" + f + ", " + g + ")",
                    () -> model.carry(f, g), () -> real.carry(f, g));
            case 4, 5 -> compare(seed, i, "seat(" + r + ", " + f + ")", () -> model.seat(r, f), () -> real.seat(r, f));
            case 6, 7 -> compare(seed, i, "passDay()", model::passDay, real::passDay);
            case 8 -> compare(seed, i, "daysTo(" + r + ", " + s + ")",
                    () -> model.daysTo(r, s), () -> real.daysTo(r, s));
            case 9 -> compare(seed, i, "wouldMove(" + f + ")", () -> model.wouldMove(f), () -> real.wouldMove(f));
            default -> askingCall(seed, i, f, r);
        }
    }

    private void comingCall(int seed, int i) {
        if (random.nextInt(4) == 0 && (crowded == -1 || !isCrowding)) {
            compare(seed, i, "putFirst()", model::putFirst, real::putFirst);
            return;
        }
        if (!isCrowding || !model.has(crowded) || random.nextInt(50) == 0) {
            crowded = folder();
        }
        int f = crowded;
        compare(seed, i, "putBehind(" + f + ")", () -> model.putBehind(f), () -> real.putBehind(f));
    }

    private void askingCall(int seed, int i, int f, int r) {
        int level = below(9);
        int shelf = below(level >= 0 && level < 9 ? 256 >> level : 9);
        ask(seed, i, f, r, level, shelf, below(256));
    }

    /** A question with numbers from just below to just above all that is allowed. */
    private void anyQuestion(int seed, int i) {
        int f = random.nextInt(204) - 2;
        if (random.nextInt(8) == 0) {
            compare(seed, i, "wouldMove(" + f + ")", () -> model.wouldMove(f), () -> real.wouldMove(f));
            return;
        }
        int level = random.nextInt(11) - 1;
        int shelf = random.nextInt((level >= 0 && level < 9 ? 256 >> level : 1) + 2) - 1;
        ask(seed, i, f, random.nextInt(6) - 1, level, shelf, random.nextInt(260) - 2);
    }

    private void ask(int seed, int i, int f, int r, int level, int shelf, int m) {
        switch (random.nextInt(15)) {
            case 0 -> compare(seed, i, "size()", model::size, real::size);
            case 1 -> compare(seed, i, "first()", model::first, real::first);
            case 2 -> compare(seed, i, "next(" + f + ")", () -> model.next(f), () -> real.next(f));
            case 3 -> compare(seed, i, "previous(" + f + ")", () -> model.previous(f), () -> real.previous(f));
            case 4 -> compare(seed, i, "has(" + f + ")", () -> model.has(f) ? 1 : 0, () -> real.has(f) ? 1 : 0);
            case 5 -> compare(seed, i, "mark(" + f + ")", () -> model.mark(f), () -> real.mark(f));
            case 6 -> compare(seed, i, "ahead(" + f + ")", () -> model.ahead(f), () -> real.ahead(f));
            case 7 -> compare(seed, i, "from(" + m + ")", () -> model.from(m), () -> real.from(m));
            case 8 -> compare(seed, i, "gapBehind(" + f + ")", () -> model.gapBehind(f), () -> real.gapBehind(f));
            case 9 -> compare(seed, i, "load(" + level + ", " + shelf + ")",
                    () -> model.load(level, shelf), () -> real.load(level, shelf));
            case 10 -> compare(seed, i, "loaded(" + level + ")", () -> model.loaded(level), () -> real.loaded(level));
            case 11 -> compare(seed, i, "moved()", model::moved, real::moved);
            case 12 -> compare(seed, i, "spread(" + level + ")", () -> model.spread(level), () -> real.spread(level));
            case 13 -> compare(seed, i, "at(" + r + ")", () -> model.at(r), () -> real.at(r));
            default -> compare(seed, i, "read(" + r + ")", () -> model.read(r), () -> real.read(r));
        }
    }
}
