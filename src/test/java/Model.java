import java.math.BigInteger;
import java.util.ArrayList;
import java.util.List;

/**
 * The document once more, slow and plain: boxes hold their lists, copies are whole copies, counts
 * and nesting are found by walking, sums are BigIntegers. It shares no code with BoxDesk.
 */
final class Model {
    private static final BigInteger MAX = BigInteger.valueOf(1073741823);

    static final class Node {
        int kind;
        BigInteger width = BigInteger.ZERO;
        BigInteger height = BigInteger.ZERO;
        BigInteger depth = BigInteger.ZERO;
        BigInteger set = BigInteger.ZERO;
        boolean widthRuns;
        boolean heightRuns;
        boolean depthRuns;
        int shift;
        int stretch;
        int order;
        int shrink;
        int penalty;
        List<Node> list = new ArrayList<>();

        Node copy() {
            Node n = new Node();
            n.kind = kind;
            n.width = width;
            n.height = height;
            n.depth = depth;
            n.set = set;
            n.widthRuns = widthRuns;
            n.heightRuns = heightRuns;
            n.depthRuns = depthRuns;
            n.shift = shift;
            n.stretch = stretch;
            n.order = order;
            n.shrink = shrink;
            n.penalty = penalty;
            for (Node inside : list) {
                n.list.add(inside.copy());
            }
            return n;
        }

        boolean isBox() {
            return kind == 2 || kind == 3;
        }
    }

    private final List<List<Node>> lists = new ArrayList<>();
    private final List<Boolean> verticals = new ArrayList<>();
    private final Node[] registers = new Node[16];

    private static BigInteger big(long v) {
        return BigInteger.valueOf(v);
    }

    private static boolean size(BigInteger v) {
        return v.abs().compareTo(MAX) <= 0;
    }

    private static boolean size(int v) {
        return size(big(v));
    }

    private static int walk(List<Node> list) {
        int n = 0;
        for (Node node : list) {
            n += 1 + walk(node.list);
        }
        return n;
    }

    private static int chain(List<Node> list) {
        int longest = 0;
        for (Node node : list) {
            if (node.isBox()) {
                longest = Math.max(longest, 1 + chain(node.list));
            }
        }
        return longest;
    }

    private boolean noList() {
        return lists.isEmpty();
    }

    private boolean vertical() {
        return verticals.get(verticals.size() - 1);
    }

    private List<Node> list() {
        return lists.get(lists.size() - 1);
    }

    private boolean filled(int k) {
        return k >= 0 && k < 16 && registers[k] != null;
    }

    boolean open(boolean vertical) {
        if (lists.size() == 100) {
            return false;
        }
        verticals.add(vertical);
        return lists.add(new ArrayList<>());
    }

    private boolean add(int kind, int width, int height, int depth) {
        if (noList() || count(1) >= 4000 || !size(width) || !size(height) || !size(depth)) {
            return false;
        }
        Node n = new Node();
        n.kind = kind;
        n.width = big(width);
        n.height = big(height);
        n.depth = big(depth);
        return list().add(n);
    }

    private Node last() {
        return list().get(list().size() - 1);
    }

    boolean character(int width, int height, int depth) {
        return !noList() && !vertical() && add(1, width, height, depth);
    }

    boolean rule(int width, int height, int depth, int running) {
        if (noList() || running < 0 || running > 7) {
            return false;
        }
        boolean w = running % 2 == 1;
        boolean h = running / 2 % 2 == 1;
        boolean d = running / 4 == 1;
        if (vertical() ? h || d : w) {
            return false;
        }
        if (!add(4, width, height, depth)) {
            return false;
        }
        last().widthRuns = w;
        last().heightRuns = h;
        last().depthRuns = d;
        return true;
    }

    boolean glue(int width, int stretch, int order, int shrink) {
        if (stretch < 0 || shrink < 0 || !size(stretch) || !size(shrink) || order < 0 || order > 3) {
            return false;
        }
        if (!add(5, width, 0, 0)) {
            return false;
        }
        last().stretch = stretch;
        last().order = order;
        last().shrink = shrink;
        return true;
    }

    boolean kern(int width) {
        return add(6, width, 0, 0);
    }

    boolean penalty(int p) {
        if (!add(7, 0, 0, 0)) {
            return false;
        }
        last().penalty = p;
        return true;
    }

    int close(int spec, int amount, int limit, int k) {
        if (noList()) {
            throw new IllegalStateException();
        }
        if (spec < 0 || spec > 2 || !size(amount) || !size(limit) || k < 0 || k > 15) {
            throw new IllegalArgumentException();
        }
        Node box = new Node();
        box.kind = vertical() ? 3 : 2;
        BigInteger natural = vertical() ? stack(box, big(limit)) : row(box);
        BigInteger wanted = spec == 2 ? big(amount) : spec == 1 ? natural.add(big(amount)) : natural;
        if (vertical()) {
            box.height = wanted;
        } else {
            box.width = wanted;
        }
        boolean fits = size(natural) && size(box.width) && size(box.height) && size(box.depth);
        for (int order = 0; order < 4; order++) {
            fits = fits && size(stretches(order));
        }
        if (!fits || !size(shrinks()) || count(1) >= 4000 || chain(list()) >= 100) {
            throw new UnsupportedOperationException();
        }
        setGlue(wanted.subtract(natural));
        box.list = list();
        lists.remove(lists.size() - 1);
        verticals.remove(verticals.size() - 1);
        registers[k] = box;
        return wanted.intValueExact();
    }

    private BigInteger row(Node box) {
        BigInteger natural = BigInteger.ZERO;
        for (Node n : list()) {
            natural = natural.add(n.width);
            if ((n.kind == 1 || n.kind == 4 || n.isBox()) && !n.heightRuns) {
                box.height = box.height.max(n.height.subtract(big(n.shift)));
            }
            if ((n.kind == 1 || n.kind == 4 || n.isBox()) && !n.depthRuns) {
                box.depth = box.depth.max(n.depth.add(big(n.shift)));
            }
        }
        return natural;
    }

    private BigInteger stack(Node box, BigInteger limit) {
        BigInteger natural = BigInteger.ZERO;
        for (Node n : list()) {
            if (n.kind == 4 || n.isBox()) {
                natural = natural.add(n.height).add(n.depth);
                if (!n.widthRuns) {
                    box.width = box.width.max(n.width.add(big(n.shift)));
                }
            } else if (n.kind == 5 || n.kind == 6) {
                natural = natural.add(n.width);
            }
        }
        if (!list().isEmpty() && (last().kind == 4 || last().isBox())) {
            box.depth = last().depth;
            natural = natural.subtract(box.depth);
        }
        if (box.depth.compareTo(limit) > 0) {
            natural = natural.add(box.depth).subtract(limit);
            box.depth = limit;
        }
        return natural;
    }

    private BigInteger stretches(int order) {
        BigInteger sum = BigInteger.ZERO;
        for (Node n : list()) {
            sum = sum.add(n.kind == 5 && n.order == order ? big(n.stretch) : BigInteger.ZERO);
        }
        return sum;
    }

    private BigInteger shrinks() {
        BigInteger sum = BigInteger.ZERO;
        for (Node n : list()) {
            sum = sum.add(big(n.shrink));
        }
        return sum;
    }

    private static BigInteger near(BigInteger a, BigInteger b) {
        if (a.signum() < 0) {
            return near(a.negate(), b).negate();
        }
        return a.add(a).add(b).divide(b.add(b));
    }

    private void setGlue(BigInteger excess) {
        for (Node n : list()) {
            n.set = n.width;
        }
        if (excess.signum() > 0) {
            for (int order = 3; order >= 0; order--) {
                if (stretches(order).signum() > 0) {
                    stretch(excess, order);
                    return;
                }
            }
        } else if (excess.signum() < 0 && shrinks().signum() > 0) {
            shrink(excess.max(shrinks().negate()));
        }
    }

    private void stretch(BigInteger e, int order) {
        BigInteger s = stretches(order);
        BigInteger b = BigInteger.ZERO;
        for (Node n : list()) {
            if (n.kind == 5 && n.order == order) {
                BigInteger c = b.add(big(n.stretch));
                n.set = n.width.add(near(e.multiply(c), s)).subtract(near(e.multiply(b), s));
                b = c;
            }
        }
    }

    private void shrink(BigInteger e) {
        BigInteger s = shrinks();
        BigInteger b = BigInteger.ZERO;
        for (Node n : list()) {
            if (n.kind == 5) {
                BigInteger c = b.add(big(n.shrink));
                n.set = n.width.add(near(e.multiply(c), s)).subtract(near(e.multiply(b), s));
                b = c;
            }
        }
    }

    boolean put(int k, int shift, boolean copies) {
        if (noList() || !filled(k) || !size(shift)) {
            return false;
        }
        if (copies && count(1) + 1 + walk(registers[k].list) > 4000) {
            return false;
        }
        Node box = copies ? registers[k].copy() : registers[k];
        box.shift = shift;
        if (!copies) {
            registers[k] = null;
        }
        return list().add(box);
    }

    boolean unbox(int k) {
        if (noList() || !filled(k) || (registers[k].kind == 3) != vertical()) {
            return false;
        }
        list().addAll(registers[k].list);
        registers[k] = null;
        return true;
    }

    boolean size(int k, int which, int v) {
        if (!filled(k) || which < 0 || which > 2 || !size(v)) {
            return false;
        }
        if (which == 0) {
            registers[k].width = big(v);
        } else if (which == 1) {
            registers[k].height = big(v);
        } else {
            registers[k].depth = big(v);
        }
        return true;
    }

    int about(int k, int what) {
        if (k < 0 || k > 15 || what < 0 || what > 5) {
            throw new IndexOutOfBoundsException();
        }
        Node box = registers[k];
        if (box == null) {
            return 0;
        }
        int[] all = {box.kind - 1, box.width.intValueExact(), box.height.intValueExact(),
            box.depth.intValueExact(), box.list.size(), walk(box.list)};
        return all[what];
    }

    int item(int k, int i, int what) {
        if (!filled(k) || i < 0 || i >= registers[k].list.size() || what < 0 || what > 5) {
            throw new IndexOutOfBoundsException();
        }
        Node n = registers[k].list.get(i);
        BigInteger edge = big(Integer.MAX_VALUE);
        BigInteger width = n.kind == 5 ? n.set.min(edge).max(edge.negate()) : n.width;
        int[] all = {n.kind,
            n.kind == 7 ? n.penalty : n.widthRuns ? Integer.MIN_VALUE : width.intValueExact(),
            n.heightRuns ? Integer.MIN_VALUE : n.height.intValueExact(),
            n.depthRuns ? Integer.MIN_VALUE : n.depth.intValueExact(),
            n.isBox() ? n.shift : n.stretch, n.shrink};
        return all[what];
    }

    int count(int what) {
        if (what == 0) {
            return lists.size();
        }
        if (what != 1) {
            return -1;
        }
        int n = 0;
        for (List<Node> list : lists) {
            n += walk(list);
        }
        for (Node box : registers) {
            n += box == null ? 0 : 1 + walk(box.list);
        }
        return n;
    }
}
