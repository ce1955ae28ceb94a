import java.util.ArrayList;
import java.util.List;

/**
 * Tries calls at a boundary that a sentence of the document names, each on a desk of its own. A
 * call that is refused is made on one of two desks that have had the same calls before: what later
 * calls show must be the same on both.
 */
final class Boundary {
    static final int MAX = 1073741823;
    static final int RUNS = Integer.MIN_VALUE;
    static final int[] SIZES = {-MAX, 1 - MAX, -1, 0, 1, MAX - 1, MAX};
    static final int[] NO_SIZES = {-MAX - 1, MAX + 1, Integer.MIN_VALUE, Integer.MAX_VALUE};
    static final int[] NO_REGISTERS = {-1, 16, Integer.MIN_VALUE, Integer.MAX_VALUE};
    static final boolean[] KINDS = {false, true};
    static final String NO_LIST = "throws.IllegalStateException";
    static final String NO_ARGUMENT = "throws.IllegalArgumentException";
    static final String NO_BOX = "throws.UnsupportedOperationException";
    static final String NO_INDEX = "throws.IndexOutOfBoundsException";

    private static final int VIEWS = 3;
    private static final Script NOTHING = x -> { };

    interface Script {
        void on(Desk x);
    }

    interface Call {
        int on(Desk x);
    }

    interface Question {
        boolean on(Desk x);
    }

    private final Checks checks;
    private String sentence = "";
    private Script before = NOTHING;
    private Script mend = NOTHING;

    Boundary(Checks checks) {
        this.checks = checks;
    }

    /** The checks from here on are of this sentence, on new desks without any call before. */
    void sentence(String promise, String words) {
        sentence = promise + ", \"" + words + "\": ";
        before = NOTHING;
        mend = NOTHING;
    }

    /** What is called on each new desk before the call that is tried. */
    void before(Script calls) {
        before = calls;
        mend = NOTHING;
    }

    /** What is called after a refused call, so that later calls can show what is in a list. */
    void mend(Script calls) {
        mend = calls;
    }

    Desk desk() {
        Desk x = new Desk();
        before.on(x);
        return x;
    }

    Desk allowed(String what, Question call) {
        return answers(what, 1, x -> call.on(x) ? 1 : 0);
    }

    Desk answers(String what, int due, Call call) {
        Desk x = desk();
        checks.sameText(sentence + what, outcome(call, x), Integer.toString(due));
        return x;
    }

    void shows(String what, int got, int due) {
        checks.same(sentence + what, got, due);
    }

    /** about(k, 1) and on are due. */
    void sizes(String what, Desk x, int k, int... due) {
        for (int i = 0; i < due.length; i++) {
            shows(what + ": about(" + k + ", " + (i + 1) + ")", x.about(k, i + 1), due[i]);
        }
    }

    /** item(k, 0, 1), item(k, 1, 1) and on are due, and there are no more items. */
    void widths(String what, Desk x, int k, int... due) {
        shows(what + ": items", x.about(k, 4), due.length);
        for (int i = 0; i < due.length; i++) {
            shows(what + ": item(" + k + ", " + i + ", 1)", x.item(k, i, 1), due[i]);
        }
    }

    void refused(String what, Question call) {
        changesNothing(what, "0", x -> call.on(x) ? 1 : 0);
    }

    void changesNothing(String what, String due, Call call) {
        for (int view = 0; view < VIEWS; view++) {
            Desk tried = desk();
            String got = outcome(call, tried);
            if (view == 0) {
                checks.sameText(sentence + what, got, due);
            }
            Desk spared = desk();
            mend.on(tried);
            mend.on(spared);
            int room = Desk.MOST_CALLS - tried.calls();
            compare(what, seen(view, tried, room), seen(view, spared, room));
        }
    }

    private void compare(String what, List<String> tried, List<String> spared) {
        checks.same(sentence + what + ", then calls shown", tried.size(), spared.size());
        for (int i = 0; i < Math.min(tried.size(), spared.size()); i++) {
            checks.sameText(sentence + what + ", then", tried.get(i), spared.get(i));
        }
    }

    private static String outcome(Call call, Desk x) {
        try {
            return Integer.toString(call.on(x));
        } catch (RuntimeException e) {
            return "throws." + e.getClass().getSimpleName() + (Checks.isOwn(e) ? "" : ", but not by its own throw");
        }
    }

    private static List<String> seen(int view, Desk x, int room) {
        View of = new View(x, room);
        if (view == 0) {
            of.counts();
            for (int k = 0; k < 16; k++) {
                of.register(k, 0);
            }
        } else if (view == 1) {
            for (int k = 0; k < 16; k++) {
                of.register(k, 40);
            }
        } else {
            of.openLists();
        }
        return of.seen;
    }

    /** What later calls show, as far as the calls of one object reach. */
    private static final class View {
        private final Desk desk;
        private final int lastCall;
        private final List<String> seen = new ArrayList<>();

        View(Desk desk, int room) {
            this.desk = desk;
            lastCall = desk.calls() + room;
        }

        private String see(String what, Call call) {
            if (desk.calls() >= lastCall) {
                return "";
            }
            String got = outcome(call, desk);
            seen.add(what + " " + got);
            return got;
        }

        void counts() {
            see("count(0)", x -> x.count(0));
            see("count(1)", x -> x.count(1));
        }

        void register(int k, int mostItems) {
            for (int w = 0; w < 6; w++) {
                int what = w;
                see("about(" + k + ", " + w + ")", x -> x.about(k, what));
            }
            for (int i = 0; i < mostItems; i++) {
                int at = i;
                if (see("item(" + k + ", " + i + ", 0)", x -> x.item(k, at, 0)).equals(NO_INDEX)) {
                    return;
                }
                for (int w = 1; w < 6; w++) {
                    int what = w;
                    see("item(" + k + ", " + i + ", " + w + ")", x -> x.item(k, at, what));
                }
            }
        }

        /** A full desk has no room for a box; one with the boxes of {@link #fill} gets some so. */
        private void makeRoom() {
            see("open(false)", x -> x.open(false) ? 1 : 0);
            see("unbox(13)", x -> x.unbox(13) ? 1 : 0);
            see("close(0, 0, 0, 14)", x -> x.close(0, 0, 0, 14));
        }

        void openLists() {
            counts();
            makeRoom();
            for (int i = 0; i < 100; i++) {
                String got = see("close(2, 50, 40, 12)", x -> x.close(2, 50, 40, 12));
                if (got.startsWith("throws")) {
                    break;
                }
                register(12, 12);
                counts();
            }
        }
    }

    /** Register 0 gets an hbox or a vbox with one rule of these sizes. */
    static void box(Desk x, boolean vertical, int width, int height, int depth) {
        x.open(vertical);
        x.rule(width, height, depth, 0);
        x.close(0, 0, MAX, 0);
    }

    /**
     * So many items in all: an hbox of 10 items in register 13, one of 100 in register 14, copies of
     * them and kerns in a list that stays open.
     */
    static void fill(Desk x, boolean vertical, int items) {
        x.open(false);
        for (int i = 0; i < 9; i++) {
            x.kern(0);
        }
        x.close(0, 0, 0, 13);
        x.open(false);
        for (int i = 0; i < 9; i++) {
            x.put(13, 0, true);
            x.kern(0);
        }
        x.close(0, 0, 0, 14);
        x.open(vertical);
        int rest = items - 110;
        for (int i = 0; i < rest / 100; i++) {
            x.put(14, 0, true);
        }
        for (int i = 0; i < rest % 100 / 10; i++) {
            x.put(13, 0, true);
        }
        for (int i = 0; i < rest % 10; i++) {
            x.kern(0);
        }
    }

    /** Register 0 gets so many boxes inside one another, each the only item of the next. */
    static void nest(Desk x, int boxes) {
        for (int i = 0; i < boxes; i++) {
            x.open(i % 2 == 0);
            if (i > 0) {
                x.put(0, 0, false);
            }
            x.close(0, 0, 0, 0);
        }
    }
}
