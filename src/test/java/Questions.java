import java.util.ArrayList;
import java.util.List;
import java.util.function.ToLongFunction;

/**
 * All that can be asked of an archive without changing it. Since an object is used for 512 calls at most, the
 * questions go to several objects, which have all been through the same calls.
 */
final class Questions {
    interface Script {
        void on(Archive x);
    }

    /** So many calls are left for the questions; the script of the 200 folders that come and go takes the others. */
    private static final int A_TIME = 80;
    private static final int[] FOLDERS = {-1, 0, 1, 2, 3, 4, 5, 6, 7, 8, 9, 10, 11, 58, 59, 60, 61, 199, 200};

    private static final List<String> NAMES = new ArrayList<>();
    private static final List<ToLongFunction<Archive>> ALL = new ArrayList<>();

    static {
        ofThePlain();
        for (int folder : FOLDERS) {
            ofAFolder(folder);
        }
        for (int mark = -1; mark <= 256; mark++) {
            int each = mark;
            add("from(" + mark + ")", x -> x.from(each));
        }
        for (int level = 0; level < 9; level++) {
            ofALevel(level);
        }
        for (int reader = 0; reader < 4; reader++) {
            ofAReader(reader);
        }
    }

    private Questions() {
    }

    private static void add(String name, ToLongFunction<Archive> question) {
        NAMES.add(name);
        ALL.add(question);
    }

    private static void ofThePlain() {
        add("size()", Archive::size);
        add("first()", Archive::first);
        add("moved()", Archive::moved);
    }

    private static void ofAFolder(int folder) {
        add("has(" + folder + ")", x -> x.has(folder) ? 1 : 0);
        add("next(" + folder + ")", x -> x.next(folder));
        add("previous(" + folder + ")", x -> x.previous(folder));
        add("mark(" + folder + ")", x -> x.mark(folder));
        add("ahead(" + folder + ")", x -> x.ahead(folder));
        add("gapBehind(" + folder + ")", x -> x.gapBehind(folder));
        add("wouldMove(" + folder + ")", x -> x.wouldMove(folder));
    }

    private static void ofALevel(int level) {
        add("loaded(" + level + ")", x -> x.loaded(level));
        add("spread(" + level + ")", x -> x.spread(level));
        for (int shelf = 0; shelf < 256 >> level; shelf++) {
            int each = shelf;
            add("load(" + level + ", " + shelf + ")", x -> x.load(level, each));
        }
    }

    private static void ofAReader(int reader) {
        add("at(" + reader + ")", x -> x.at(reader));
        add("read(" + reader + ")", x -> x.read(reader));
        for (int other = 0; other < 4; other++) {
            int each = other;
            add("daysTo(" + reader + ", " + other + ")", x -> x.daysTo(reader, each));
        }
    }

    /** Whether all that can be asked is answered alike after the one script and after the other one. */
    static void same(Trial t, String what, Script one, Script other) {
        for (int from = 0; from < ALL.size(); from += A_TIME) {
            Archive x = t.fresh();
            Archive y = t.fresh();
            one.on(x);
            other.on(y);
            for (int i = from; i < ALL.size() && i < from + A_TIME; i++) {
                ToLongFunction<Archive> question = ALL.get(i);
                t.same(what + ", then " + NAMES.get(i), Checks.told(() -> question.applyAsLong(x)),
                        Checks.told(() -> question.applyAsLong(y)));
            }
        }
    }
}
