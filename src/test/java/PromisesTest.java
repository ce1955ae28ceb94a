/** One method a promise: ordinary inputs, the edges that the document names, and wrong inputs. */
public final class PromisesTest {
    private static final int MAX = 1073741823;
    private static final int OVER = MAX + 1;
    private static final int RUNS = Integer.MIN_VALUE;
    private static final Class<IndexOutOfBoundsException> NO_INDEX = IndexOutOfBoundsException.class;
    private static final Class<IllegalStateException> NO_STATE = IllegalStateException.class;
    private static final Class<IllegalArgumentException> NO_ARGUMENT = IllegalArgumentException.class;
    private static final Class<UnsupportedOperationException> NO_BOX = UnsupportedOperationException.class;
    private static final Checks CHECKS = new Checks();

    private PromisesTest() {
    }

    public static void main(String[] args) {
        promise1NewObject();
        promise2Open();
        promise3Character();
        promise4Rule();
        promise5Glue();
        promise6Kern();
        promise7Penalty();
        promise8CloseAnHbox();
        promise8CloseAVbox();
        promise8CloseWithALimit();
        promise8CloseRefuses();
        promise8CloseKeepsSizes();
        promise8GlueIsSet();
        promise8GlueAtTheEdges();
        promise8BoxesInOneAnother();
        promise9Put();
        promise9PutAtTheLimit();
        promise10Unbox();
        promise11Size();
        promise12About();
        promise13Item();
        promise14Count();
        theFullDesk();
        CHECKS.end();
    }

    private static Desk opened(boolean vertical) {
        Desk x = new Desk();
        x.open(vertical);
        return x;
    }

    /** A desk with an hbox of one character in register 0, and an open list. */
    private static Desk withHbox(int width, int height, int depth, boolean vertical) {
        Desk x = opened(false);
        x.character(width, height, depth);
        x.close(0, 0, 0, 0);
        x.open(vertical);
        return x;
    }

    private static void sizes(String what, Desk x, int k, int... due) {
        for (int i = 0; i < due.length; i++) {
            CHECKS.same(what + ": size " + (i + 1), x.about(k, i + 1), due[i]);
        }
    }

    private static void widths(String what, Desk x, int k, int... due) {
        CHECKS.same(what + ": items", x.about(k, 4), due.length);
        for (int i = 0; i < due.length; i++) {
            CHECKS.same(what + ": width of item " + i, x.item(k, i, 1), due[i]);
        }
    }

    private static void itemIs(String what, Desk x, int i, int... due) {
        for (int w = 0; w < 6; w++) {
            CHECKS.same(what + ": item(0, " + i + ", " + w + ")", x.item(0, i, w), due[w]);
        }
        CHECKS.refused(what + ": item(0, " + i + ", 6)", NO_INDEX, () -> x.item(0, i, 6));
        CHECKS.refused(what + ": item(0, " + i + ", -1)", NO_INDEX, () -> x.item(0, i, -1));
    }

    private static void promise1NewObject() {
        Desk x = new Desk();
        CHECKS.same("1: lists", x.count(0), 0);
        CHECKS.same("1: items", x.count(1), 0);
        CHECKS.same("1: NONE", BoxDesk.NONE, -1);
        for (int k = 0; k < 16; k++) {
            for (int what = 0; what < 6; what++) {
                CHECKS.same("1: about " + k + " " + what, x.about(k, what), 0);
            }
        }
        Desk other = opened(false);
        other.kern(1);
        CHECKS.same("1: objects are apart", x.count(1), 0);
    }

    private static void promise2Open() {
        Desk x = new Desk();
        for (int i = 0; i < 100; i++) {
            CHECKS.yes("2: open " + i, x.open(i % 2 == 0));
            CHECKS.same("2: lists", x.count(0), i + 1);
        }
        CHECKS.no("2: the 101st", x.open(true));
        CHECKS.same("2: lists stay", x.count(0), 100);
        CHECKS.same("2: a list is no item", x.count(1), 0);
        CHECKS.yes("2: the innermost is horizontal", x.character(1, 1, 1));
        x.close(0, 0, 0, 0);
        CHECKS.no("2: the next is vertical", x.character(1, 1, 1));
        CHECKS.yes("2: there is room again", x.open(false));
        CHECKS.no("2: and no more", x.open(false));
    }

    private static void promise3Character() {
        Desk x = new Desk();
        CHECKS.no("3: no list", x.character(1, 1, 1));
        x.open(true);
        CHECKS.no("3: vertical", x.character(1, 1, 1));
        x.open(false);
        CHECKS.yes("3: least", x.character(-MAX, -MAX, -MAX));
        CHECKS.yes("3: greatest", x.character(MAX, MAX, MAX));
        int[] bad = {OVER, -OVER, Integer.MAX_VALUE, Integer.MIN_VALUE};
        for (int b : bad) {
            CHECKS.no("3: width " + b, x.character(b, 0, 0));
            CHECKS.no("3: height " + b, x.character(0, b, 0));
            CHECKS.no("3: depth " + b, x.character(0, 0, b));
        }
        CHECKS.same("3: items", x.count(1), 2);
        x.close(0, 0, 0, 0);
        itemIs("3: least", x, 0, 1, -MAX, -MAX, -MAX, 0, 0);
        itemIs("3: greatest", x, 1, 1, MAX, MAX, MAX, 0, 0);
    }

    private static void promise4Rule() {
        CHECKS.no("4: no list", new Desk().rule(1, 1, 1, 0));
        for (int running = -2; running < 18; running++) {
            boolean across = running == 0 || running == 2 || running == 4 || running == 6;
            boolean down = running == 0 || running == 1;
            CHECKS.same("4: h " + running, opened(false).rule(1, 2, 3, running) ? 1 : 0, across ? 1 : 0);
            CHECKS.same("4: v " + running, opened(true).rule(1, 2, 3, running) ? 1 : 0, down ? 1 : 0);
        }
        Desk x = opened(false);
        CHECKS.no("4: a bit far off", x.rule(1, 1, 1, Integer.MIN_VALUE));
        CHECKS.no("4: running, but no SIZE", x.rule(0, OVER, 0, 2));
        CHECKS.no("4: running, but no SIZE", x.rule(0, 0, -OVER, 4));
        CHECKS.no("4: no SIZE", x.rule(OVER, 0, 0, 0));
        CHECKS.no("4: v, running, but no SIZE", opened(true).rule(OVER, 0, 0, 1));
        CHECKS.same("4: none joined", x.count(1), 0);
        CHECKS.yes("4: edges", x.rule(MAX, -MAX, MAX, 0));
        CHECKS.yes("4: height runs", x.rule(-MAX, 9, 3, 2));
        CHECKS.yes("4: depth runs", x.rule(5, 4, 99, 4));
        CHECKS.yes("4: both run", x.rule(6, 7, 99, 6));
        x.close(0, 0, 0, 0);
        itemIs("4: edges", x, 0, 4, MAX, -MAX, MAX, 0, 0);
        itemIs("4: height runs", x, 1, 4, -MAX, RUNS, 3, 0, 0);
        itemIs("4: depth runs", x, 2, 4, 5, 4, RUNS, 0, 0);
        itemIs("4: both run", x, 3, 4, 6, RUNS, RUNS, 0, 0);
        sizes("4: what runs does not count", x, 0, 11, 4, MAX);
        x.open(false);
        x.rule(1, 50, 60, 6);
        x.rule(1, 2, 3, 0);
        x.close(0, 0, 0, 1);
        sizes("4: height and depth that run do not count", x, 1, 2, 2, 3);
        Desk y = opened(true);
        y.rule(50, 1, 2, 1);
        y.rule(7, 3, 4, 0);
        y.close(0, 0, MAX, 0);
        itemIs("4: width runs", y, 0, 4, RUNS, 1, 2, 0, 0);
        sizes("4: width that runs does not count", y, 0, 7, 6, 4);
    }

    private static void promise5Glue() {
        CHECKS.no("5: no list", new Desk().glue(1, 1, 1, 1));
        for (int kind = 0; kind < 2; kind++) {
            Desk x = opened(kind == 1);
            int[] bad = {OVER, -OVER, Integer.MAX_VALUE, Integer.MIN_VALUE};
            for (int b : bad) {
                CHECKS.no("5: width " + b, x.glue(b, 0, 0, 0));
                CHECKS.no("5: stretch " + b, x.glue(0, b, 0, 0));
                CHECKS.no("5: order " + b, x.glue(0, 0, b, 0));
                CHECKS.no("5: shrink " + b, x.glue(0, 0, 0, b));
            }
            CHECKS.no("5: stretch below 0", x.glue(0, -1, 0, 0));
            CHECKS.no("5: shrink below 0", x.glue(0, 0, 0, -1));
            CHECKS.no("5: order -1", x.glue(0, 0, -1, 0));
            CHECKS.no("5: order 4", x.glue(0, 0, 4, 0));
            CHECKS.same("5: none joined", x.count(1), 0);
            CHECKS.yes("5: width below 0", x.glue(-MAX, 0, 0, 0));
            CHECKS.yes("5: greatest", x.glue(MAX, MAX, 3, MAX));
            x.close(0, 0, 0, 0);
            itemIs("5: least", x, 0, 5, -MAX, 0, 0, 0, 0);
            itemIs("5: greatest", x, 1, 5, MAX, 0, 0, MAX, MAX);
        }
    }

    private static void promise6Kern() {
        CHECKS.no("6: no list", new Desk().kern(1));
        for (int kind = 0; kind < 2; kind++) {
            Desk x = opened(kind == 1);
            CHECKS.no("6: over", x.kern(OVER));
            CHECKS.no("6: under", x.kern(-OVER));
            CHECKS.no("6: far under", x.kern(Integer.MIN_VALUE));
            CHECKS.yes("6: greatest", x.kern(MAX));
            CHECKS.yes("6: least", x.kern(-MAX));
            CHECKS.yes("6: plain", x.kern(6));
            CHECKS.same("6: counts", x.close(0, 0, 0, 0), 6);
            itemIs("6: greatest", x, 0, 6, MAX, 0, 0, 0, 0);
            itemIs("6: least", x, 1, 6, -MAX, 0, 0, 0, 0);
        }
    }

    private static void promise7Penalty() {
        CHECKS.no("7: no list", new Desk().penalty(1));
        for (int kind = 0; kind < 2; kind++) {
            Desk x = opened(kind == 1);
            CHECKS.yes("7: least", x.penalty(Integer.MIN_VALUE));
            CHECKS.yes("7: greatest", x.penalty(Integer.MAX_VALUE));
            CHECKS.yes("7: plain", x.penalty(-5));
            CHECKS.same("7: a number is no width", x.close(0, 0, 0, 0), 0);
            itemIs("7: least", x, 0, 7, Integer.MIN_VALUE, 0, 0, 0, 0);
            itemIs("7: greatest", x, 1, 7, Integer.MAX_VALUE, 0, 0, 0, 0);
            itemIs("7: plain", x, 2, 7, -5, 0, 0, 0, 0);
        }
    }

    private static void promise8CloseAnHbox() {
        Desk x = withHbox(10, 20, 30, false);
        x.character(1, 4, 3);
        x.rule(2, 6, 2, 0);
        x.glue(4, 1, 0, 1);
        x.kern(8);
        x.penalty(1000);
        x.put(0, -5, true);
        CHECKS.same("8: natural width", x.close(0, 99, 0, 1), 25);
        sizes("8: a box shifted up", x, 1, 25, 25, 25, 6, 7);
        x.open(false);
        x.put(0, 5, true);
        CHECKS.same("8: natural width and more", x.close(1, 7, 0, 2), 17);
        sizes("8: a box shifted down", x, 2, 17, 15, 35, 1, 2);
        x.open(false);
        x.character(3, -4, -5);
        CHECKS.same("8: natural width and less", x.close(1, -7, 0, 2), -4);
        sizes("8: heights below 0", x, 2, -4, 0, 0, 1, 1);
        x.open(false);
        CHECKS.same("8: empty, just so much", x.close(2, MAX, 0, 15), MAX);
        sizes("8: empty", x, 15, MAX, 0, 0, 0, 0);
        CHECKS.same("8: kind", x.about(15, 0), 1);
        CHECKS.same("8: no list is open", x.count(0), 0);
        x.open(false);
        x.character(1, 1, 5);
        CHECKS.same("8: the limit is for vboxes", x.close(0, 0, -3, 15), 1);
        sizes("8: in place of what was there", x, 15, 1, 1, 5, 1, 1);
    }

    private static void promise8CloseAVbox() {
        Desk x = withHbox(10, 20, 30, true);
        x.rule(12, 1, 2, 0);
        x.put(0, 5, true);
        x.glue(100, 0, 0, 0);
        x.kern(1000);
        x.penalty(7777);
        x.rule(0, 5, 6, 1);
        CHECKS.same("8: natural height", x.close(0, 0, MAX, 1), 3 + 50 + 1100 + 5);
        sizes("8: vbox", x, 1, 15, 1158, 6, 6, 7);
        CHECKS.same("8: kind", x.about(1, 0), 2);
        x.open(true);
        x.put(0, -15, false);
        CHECKS.same("8: and more", x.close(1, 3, MAX, 1), 23);
        sizes("8: width with the shift is below 0", x, 1, 0, 23, 30, 1, 2);
        x.open(true);
        CHECKS.same("8: just so much", x.close(2, -8, 0, 1), -8);
        sizes("8: empty vbox", x, 1, 0, -8, 0, 0, 0);
        lastIsNoBox("glue", 1);
        lastIsNoBox("kern", 2);
        lastIsNoBox("penalty", 3);
    }

    private static void lastIsNoBox(String what, int last) {
        Desk x = opened(true);
        x.rule(1, 2, 3, 0);
        if (last == 1) {
            x.glue(10, 0, 0, 0);
        } else if (last == 2) {
            x.kern(10);
        } else {
            x.penalty(10);
        }
        int due = last == 3 ? 5 : 15;
        CHECKS.same("8: last is " + what, x.close(0, 0, MAX, 0), due);
        sizes("8: last is " + what, x, 0, 1, due, 0, 2);
    }

    private static void promise8CloseWithALimit() {
        int[][] limitHeightDepth = {{6, 7, 5}, {5, 7, 5}, {4, 8, 4}, {0, 12, 0}, {-2, 14, -2}};
        for (int[] row : limitHeightDepth) {
            Desk x = opened(true);
            x.rule(1, 7, 5, 0);
            CHECKS.same("8: limit " + row[0], x.close(0, 0, row[0], 0), row[1]);
            sizes("8: limit " + row[0], x, 0, 1, row[1], row[2]);
        }
        Desk x = opened(true);
        CHECKS.same("8: 0 is more than a limit below 0", x.close(0, 0, -4, 0), 4);
        sizes("8: 0 is more than a limit below 0", x, 0, 0, 4, -4);
        x.open(true);
        x.rule(1, 1, -6, 0);
        CHECKS.same("8: a depth below the limit", x.close(0, 0, -4, 0), 1);
        sizes("8: a depth below the limit", x, 0, 1, 1, -6);
        x.open(true);
        x.glue(10, 1, 0, 0);
        x.rule(1, 0, 8, 0);
        CHECKS.same("8: the rest is natural", x.close(2, 20, 3, 0), 20);
        widths("8: the rest is natural", x, 0, 15, 1);
    }

    private static void promise8CloseRefuses() {
        Desk x = new Desk();
        CHECKS.refused("8: no list", NO_STATE, () -> x.close(0, 0, 0, 0));
        CHECKS.refused("8: no list comes first", NO_STATE, () -> x.close(9, OVER, OVER, 99));
        x.open(false);
        x.character(MAX, 0, 0);
        x.character(1, 0, 0);
        int[] bad = {OVER, -OVER, Integer.MAX_VALUE, Integer.MIN_VALUE};
        for (int b : bad) {
            CHECKS.refused("8: spec " + b, NO_ARGUMENT, () -> x.close(b, 0, 0, 0));
            CHECKS.refused("8: amount " + b, NO_ARGUMENT, () -> x.close(0, b, 0, 0));
            CHECKS.refused("8: limit " + b, NO_ARGUMENT, () -> x.close(0, 0, b, 0));
            CHECKS.refused("8: register " + b, NO_ARGUMENT, () -> x.close(0, 0, 0, b));
        }
        CHECKS.refused("8: spec -1", NO_ARGUMENT, () -> x.close(-1, 0, 0, 0));
        CHECKS.refused("8: spec 3", NO_ARGUMENT, () -> x.close(3, 0, 0, 0));
        CHECKS.refused("8: register -1", NO_ARGUMENT, () -> x.close(0, 0, 0, -1));
        CHECKS.refused("8: register 16", NO_ARGUMENT, () -> x.close(0, 0, 0, 16));
        CHECKS.refused("8: the sum is no SIZE", NO_BOX, () -> x.close(2, 5, 0, 0));
        CHECKS.same("8: the list is open still", x.count(0), 1);
        CHECKS.same("8: with its items", x.count(1), 2);
        CHECKS.same("8: and the register void", x.about(0, 0), 0);
        x.kern(-1);
        CHECKS.same("8: sums on the way may be no SIZE", x.close(0, 0, 0, 0), MAX);
    }

    private static void cantBeMade(String what, Desk x, int spec, int amount, int limit) {
        int lists = x.count(0);
        int items = x.count(1);
        CHECKS.refused("8: " + what, NO_BOX, () -> x.close(spec, amount, limit, 3));
        CHECKS.same("8: lists after " + what, x.count(0), lists);
        CHECKS.same("8: items after " + what, x.count(1), items);
    }

    private static void promise8CloseKeepsSizes() {
        for (int order = 0; order < 4; order++) {
            Desk x = opened(order % 2 == 0);
            x.glue(0, MAX, order, 0);
            x.glue(0, MAX, (order + 1) % 4, 0);
            x.glue(0, 1, order, 0);
            cantBeMade("stretches of order " + order, x, 0, 0, 0);
        }
        Desk x = opened(false);
        x.glue(0, 0, 1, MAX);
        x.glue(0, 0, 2, 1);
        cantBeMade("all shrinks", x, 0, 0, 0);
        Desk y = opened(false);
        y.kern(MAX);
        cantBeMade("its own width", y, 1, 1, 0);
        CHECKS.same("8: the edge", y.close(1, 0, 0, 0), MAX);
        Desk z = withHbox(1, 1, 0, false);
        z.put(0, -MAX, true);
        cantBeMade("its own height", z, 0, 0, 0);
        Desk d = withHbox(1, 0, 1, false);
        d.put(0, MAX, true);
        cantBeMade("its own depth", d, 0, 0, 0);
        Desk w = withHbox(1, 0, 0, true);
        w.put(0, MAX, true);
        cantBeMade("the vbox's own width", w, 0, 0, 0);
        Desk v = opened(true);
        v.rule(0, MAX, 1, 0);
        CHECKS.same("8: the last depth is no part of the height", v.close(0, 0, MAX, 0), MAX);
        v.open(true);
        v.rule(0, MAX, 1, 0);
        cantBeMade("the rest over the limit", v, 0, 0, 0);
        v.penalty(0);
        cantBeMade("heights and depths", v, 2, 0, MAX);
        Desk u = opened(true);
        u.kern(-MAX);
        u.kern(-1);
        cantBeMade("too far below 0", u, 2, 0, 0);
    }

    private static void promise8GlueIsSet() {
        Desk x = opened(false);
        x.glue(10, 1, 0, 1);
        x.kern(5);
        x.glue(10, 1, 0, 1);
        x.glue(10, 1, 0, 1);
        x.close(2, 39, 0, 0);
        widths("8: 4 among 3", x, 0, 11, 5, 12, 11);
        reset(x, 2, 31);
        widths("8: -4 among 3, all it can", x, 0, 9, 5, 9, 9);
        reset(x, 2, 33);
        widths("8: -2 among 3", x, 0, 9, 5, 10, 9);
        reset(x, 2, 35);
        widths("8: no excess", x, 0, 10, 5, 10, 10);
        reset(x, 1, 1);
        widths("8: 1 among 3", x, 0, 10, 5, 11, 10);
        Desk y = opened(true);
        y.glue(1, 5, 0, 1);
        y.glue(2, 3, 2, 0);
        y.glue(3, 0, 3, 4);
        y.glue(4, 2, 1, 0);
        y.glue(5, 1, 2, 5);
        y.close(2, 23, 0, 0);
        widths("8: the highest order with any stretch", y, 0, 1, 8, 3, 4, 7);
        y.open(true);
        y.unbox(0);
        y.close(2, 10, 0, 0);
        widths("8: shrinks are of one kind", y, 0, 0, 2, 1, 4, 3);
        Desk z = opened(false);
        z.glue(6, 0, 3, 0);
        z.close(2, 50, 0, 0);
        widths("8: no stretch", z, 0, 6);
        reset(z, 2, -50);
        widths("8: no shrink", z, 0, 6);
    }

    private static void reset(Desk x, int spec, int amount) {
        x.open(false);
        x.unbox(0);
        x.close(spec, amount, 0, 0);
    }

    private static void promise8GlueAtTheEdges() {
        Desk x = opened(false);
        x.kern(-MAX);
        x.kern(-MAX);
        x.glue(MAX, 1, 0, 0);
        x.close(2, MAX, 0, 0);
        widths("8: at most 2147483647", x, 0, -MAX, -MAX, Integer.MAX_VALUE);
        Desk y = opened(false);
        y.glue(-MAX, 0, 0, MAX);
        y.close(1, 0, 0, 0);
        y.open(false);
        y.unbox(0);
        y.kern(MAX);
        y.close(2, -MAX, 0, 0);
        widths("8: far below 0", y, 0, -2 * MAX, MAX);
        Desk z = opened(false);
        z.kern(-MAX);
        z.glue(0, MAX - 1, 3, 0);
        z.glue(0, 1, 3, 0);
        z.close(2, MAX, 0, 0);
        widths("8: great products", z, 0, -MAX, 2 * MAX - 2, 2);
    }

    private static void promise8BoxesInOneAnother() {
        Desk x = opened(false);
        x.close(0, 0, 0, 0);
        for (int boxes = 1; boxes < 100; boxes++) {
            x.open(boxes % 2 == 0);
            x.put(0, 0, false);
            CHECKS.same("8: nested " + boxes, x.close(0, 0, 0, 0), 0);
        }
        CHECKS.same("8: 100 boxes", x.count(1), 100);
        x.open(false);
        CHECKS.yes("8: the 100 join a list", x.put(0, 0, true));
        x.kern(1);
        cantBeMade("100 boxes inside one another", x, 0, 0, 0);
        x.open(false);
        x.unbox(0);
        x.close(0, 0, 0, 1);
        CHECKS.same("8: unboxing leaves 99", x.about(1, 5), 99);
    }

    private static void promise9Put() {
        CHECKS.no("9: no list", new Desk().put(0, 0, false));
        Desk y = withHbox(3, 4, 5, false);
        int[] noRegister = {-1, 16, Integer.MAX_VALUE, Integer.MIN_VALUE};
        for (int k : noRegister) {
            CHECKS.no("9: register " + k, y.put(k, 0, false));
        }
        CHECKS.no("9: void", y.put(1, 0, true));
        CHECKS.no("9: shift over", y.put(0, OVER, false));
        CHECKS.no("9: shift under", y.put(0, -OVER, true));
        CHECKS.same("9: nothing joined", y.count(1), 2);
        CHECKS.yes("9: a copy", y.put(0, 7, true));
        CHECKS.same("9: a copy counts", y.count(1), 4);
        CHECKS.same("9: the register keeps the box", y.about(0, 0), 1);
        y.size(0, 0, 33);
        CHECKS.yes("9: the box itself", y.put(0, -7, false));
        CHECKS.same("9: nothing is made", y.count(1), 4);
        CHECKS.same("9: the register is void", y.about(0, 0), 0);
        CHECKS.no("9: void now", y.put(0, 0, false));
        y.close(0, 0, 0, 0);
        itemIs("9: the copy", y, 0, 2, 3, 4, 5, 7, 0);
        itemIs("9: the box", y, 1, 2, 33, 4, 5, -7, 0);
        CHECKS.same("9: with all inside", y.about(0, 5), 4);
        y.open(true);
        y.put(0, MAX, false);
        cantBeMade("a great shift", y, 0, 0, 0);
        y.open(true);
        y.close(0, 0, 0, 0);
        y.open(false);
        y.put(0, -MAX, false);
        y.close(0, 0, 0, 0);
        itemIs("9: a vbox", y, 0, 3, 0, 0, 0, -MAX, 0);
    }

    /** Register 0 has a box of 99 kerns, so that each copy makes 100 items. */
    private static Desk withHundred() {
        Desk x = opened(false);
        for (int i = 0; i < 99; i++) {
            x.kern(0);
        }
        x.close(0, 0, 0, 0);
        return x;
    }

    private static void promise9PutAtTheLimit() {
        Desk x = withHundred();
        x.open(false);
        for (int i = 0; i < 39; i++) {
            CHECKS.yes("9: copy " + i, x.put(0, 0, true));
        }
        CHECKS.same("9: 4000", x.count(1), 4000);
        CHECKS.no("9: no copy more", x.put(0, 0, true));
        CHECKS.yes("9: but the box itself", x.put(0, 0, false));
        CHECKS.same("9: 4000 still", x.count(1), 4000);
        Desk y = withHundred();
        y.open(false);
        for (int i = 0; i < 38; i++) {
            y.put(0, 0, true);
        }
        y.kern(0);
        CHECKS.no("9: 3901 and 100", y.put(0, 0, true));
        CHECKS.same("9: 3901", y.count(1), 3901);
    }

    private static void promise10Unbox() {
        CHECKS.no("10: no list", new Desk().unbox(0));
        Desk x = opened(false);
        x.glue(5, 2, 1, 0);
        x.character(1, 2, 3);
        x.close(2, 20, 0, 0);
        CHECKS.no("10: no list is open", x.unbox(0));
        widths("10: set", x, 0, 19, 1);
        x.open(true);
        CHECKS.no("10: of the other kind", x.unbox(0));
        x.open(false);
        int[] noRegister = {-1, 16, Integer.MAX_VALUE, Integer.MIN_VALUE};
        for (int k : noRegister) {
            CHECKS.no("10: register " + k, x.unbox(k));
        }
        CHECKS.no("10: void", x.unbox(1));
        x.kern(7);
        CHECKS.same("10: items before", x.count(1), 4);
        CHECKS.yes("10: unbox", x.unbox(0));
        CHECKS.same("10: the box itself is gone", x.count(1), 3);
        CHECKS.same("10: the register is void", x.about(0, 0), 0);
        CHECKS.no("10: void now", x.unbox(0));
        x.kern(8);
        x.close(0, 0, 0, 0);
        widths("10: in order, with its own width", x, 0, 7, 5, 1, 8);
        x.put(0, 0, false);
        x.close(0, 0, 0, 0);
        x.open(false);
        CHECKS.no("10: a vbox, a horizontal list", x.unbox(0));
        x.open(true);
        CHECKS.yes("10: a vbox, a vertical list", x.unbox(0));
        x.close(0, 0, 0, 0);
        CHECKS.same("10: boxes stay boxes", x.item(0, 0, 0), 2);
        CHECKS.same("10: with all inside", x.about(0, 5), 5);
    }

    private static void promise11Size() {
        Desk x = withHbox(1, 2, 3, false);
        CHECKS.yes("11: width", x.size(0, 0, MAX));
        CHECKS.yes("11: height", x.size(0, 1, -MAX));
        CHECKS.yes("11: depth", x.size(0, 2, 0));
        sizes("11: changed", x, 0, MAX, -MAX, 0, 1, 1);
        CHECKS.no("11: over", x.size(0, 0, OVER));
        CHECKS.no("11: under", x.size(0, 1, -OVER));
        CHECKS.no("11: which -1", x.size(0, -1, 0));
        CHECKS.no("11: which 3", x.size(0, 3, 0));
        CHECKS.no("11: void", x.size(1, 0, 0));
        CHECKS.no("11: register -1", x.size(-1, 0, 0));
        CHECKS.no("11: register 16", x.size(16, 0, 0));
        sizes("11: as before", x, 0, MAX, -MAX, 0, 1, 1);
        x.glue(4, 1, 0, 0);
        x.close(2, 9, 0, 1);
        x.size(1, 0, 100);
        widths("11: its list is not looked at", x, 1, 9);
    }

    private static void promise12About() {
        Desk x = withHbox(1, 2, 3, true);
        x.put(0, 0, true);
        x.rule(9, 8, 7, 0);
        x.close(0, 0, MAX, 1);
        CHECKS.same("12: hbox", x.about(0, 0), 1);
        CHECKS.same("12: vbox", x.about(1, 0), 2);
        CHECKS.same("12: void", x.about(2, 0), 0);
        sizes("12: hbox", x, 0, 1, 2, 3, 1, 1);
        sizes("12: vbox", x, 1, 9, 13, 7, 2, 3);
        sizes("12: void", x, 15, 0, 0, 0, 0, 0);
        int[] noRegister = {-1, 16, Integer.MAX_VALUE, Integer.MIN_VALUE};
        for (int k : noRegister) {
            CHECKS.refused("12: register " + k, NO_INDEX, () -> x.about(k, 0));
        }
        for (int k = 1; k < 3; k++) {
            int register = k;
            CHECKS.refused("12: what 6", NO_INDEX, () -> x.about(register, 6));
            CHECKS.refused("12: what -1", NO_INDEX, () -> x.about(register, -1));
        }
    }

    private static void promise13Item() {
        Desk x = withHbox(1, 2, 3, false);
        x.put(0, 4, false);
        x.penalty(9);
        x.glue(5, 6, 2, 7);
        x.close(1, 12, 0, 0);
        itemIs("13: box", x, 0, 2, 1, 2, 3, 4, 0);
        itemIs("13: penalty", x, 1, 7, 9, 0, 0, 0, 0);
        itemIs("13: glue", x, 2, 5, 17, 0, 0, 6, 7);
        int[] noItem = {-1, 3, Integer.MAX_VALUE, Integer.MIN_VALUE};
        for (int i : noItem) {
            CHECKS.refused("13: item " + i, NO_INDEX, () -> x.item(0, i, 0));
        }
        int[] noRegister = {-1, 16, 1, Integer.MAX_VALUE, Integer.MIN_VALUE};
        for (int k : noRegister) {
            CHECKS.refused("13: register " + k, NO_INDEX, () -> x.item(k, 0, 0));
        }
    }

    private static void promise14Count() {
        Desk x = withHbox(1, 2, 3, true);
        CHECKS.same("14: lists", x.count(0), 1);
        CHECKS.same("14: a register's box, too", x.count(1), 2);
        CHECKS.same("14: what 2", x.count(2), BoxDesk.NONE);
        CHECKS.same("14: what -1", x.count(-1), BoxDesk.NONE);
        x.put(0, 0, true);
        x.kern(1);
        CHECKS.same("14: lists' boxes with all inside", x.count(1), 5);
        x.close(0, 0, 0, 0);
        CHECKS.same("14: what was in the register is gone", x.count(1), 4);
        x.open(false);
        x.close(0, 0, 0, 0);
        CHECKS.same("14: and again", x.count(1), 1);
    }

    private static void theFullDesk() {
        Desk x = withHundred();
        x.open(true);
        for (int i = 0; i < 39; i++) {
            x.put(0, 0, true);
        }
        CHECKS.no("full: rule", x.rule(0, 0, 0, 0));
        CHECKS.no("full: glue", x.glue(0, 0, 0, 0));
        CHECKS.no("full: kern", x.kern(0));
        CHECKS.no("full: penalty", x.penalty(0));
        cantBeMade("full", x, 0, 0, 0);
        CHECKS.refused("full: in a register with a box", NO_BOX, () -> x.close(0, 0, 0, 0));
        CHECKS.yes("full: a list is no item", x.open(false));
        CHECKS.no("full: character", x.character(0, 0, 0));
        CHECKS.same("full", x.count(1), 4000);
        CHECKS.yes("full: unbox", x.unbox(0));
        CHECKS.same("full: one less", x.count(1), 3999);
        CHECKS.yes("full: the last character", x.character(0, 0, 0));
        CHECKS.no("full: none more", x.character(0, 0, 0));
        cantBeMade("full again", x, 0, 0, 0);
    }
}
