/** A BoxDesk that counts its calls: the document promises nothing after the 512th. */
final class Desk {
    static final int MOST_CALLS = 512;

    private final BoxDesk desk = new BoxDesk();
    private int calls;

    int calls() {
        return calls;
    }

    private BoxDesk next() {
        calls++;
        if (calls > MOST_CALLS) {
            throw new AssertionError("the test makes more than 512 calls on one object");
        }
        return desk;
    }

    boolean open(boolean vertical) {
        return next().open(vertical);
    }

    boolean character(int width, int height, int depth) {
        return next().character(width, height, depth);
    }

    boolean rule(int width, int height, int depth, int running) {
        return next().rule(width, height, depth, running);
    }

    boolean glue(int width, int stretch, int order, int shrink) {
        return next().glue(width, stretch, order, shrink);
    }

    boolean kern(int width) {
        return next().kern(width);
    }

    boolean penalty(int p) {
        return next().penalty(p);
    }

    int close(int spec, int amount, int limit, int k) {
        return next().close(spec, amount, limit, k);
    }

    boolean put(int k, int shift, boolean copies) {
        return next().put(k, shift, copies);
    }

    boolean unbox(int k) {
        return next().unbox(k);
    }

    boolean size(int k, int which, int v) {
        return next().size(k, which, v);
    }

    int about(int k, int what) {
        return next().about(k, what);
    }

    int item(int k, int i, int what) {
        return next().item(k, i, what);
    }

    int count(int what) {
        return next().count(what);
    }
}
