import java.util.ArrayList;

/** Boxes made of lists, set to a width or a height with whole numbers. */
public final class BoxDesk {
    public static final int NONE = -1;

    private static final int LARGEST_SIZE = 1073741823;
    private static final int LARGEST_SET = 2147483647;
    private static final int RUNNING_MARK = -2147483648;

    private static final int MOST_LISTS = 100;
    private static final int MOST_ITEMS = 4000;
    private static final int MOST_NESTED = 100;
    private static final int REGISTERS = 16;
    private static final int ORDERS = 4;

    private static final int CHARACTER = 1;
    private static final int HBOX = 2;
    private static final int VBOX = 3;
    private static final int RULE = 4;
    private static final int GLUE = 5;
    private static final int KERN = 6;
    private static final int PENALTY = 7;

    private static final int RUNNING_WIDTH = 1;
    private static final int RUNNING_HEIGHT = 2;
    private static final int RUNNING_DEPTH = 4;

    private static final int MORE_BY = 1;
    private static final int JUST = 2;

    private final ItemList[] lists;
    private int openLists;
    private final Box[] registers;
    private int itemsInAll;

    public BoxDesk() {
        lists = new ItemList[MOST_LISTS];
        registers = new Box[REGISTERS];
    }

    public boolean open(boolean vertical) {
        if (openLists >= MOST_LISTS) {
            return false;
        }
        lists[openLists] = new ItemList(vertical);
        openLists++;
        return true;
    }

    public boolean character(int width, int height, int depth) {
        ItemList list = innermost();
        if (list == null || list.vertical || !areSizes(width, height, depth)) {
            return false;
        }
        return join(list, new Item(CHARACTER, width, height, depth));
    }

    public boolean rule(int width, int height, int depth, int running) {
        ItemList list = innermost();
        if (list == null || !areSizes(width, height, depth)) {
            return false;
        }
        int mayRun = list.vertical ? RUNNING_WIDTH : RUNNING_HEIGHT | RUNNING_DEPTH;
        if ((running & ~mayRun) != 0) {
            return false;
        }
        return join(list, Item.ofRule(width, height, depth, running));
    }

    public boolean glue(int width, int stretch, int order, int shrink) {
        ItemList list = innermost();
        if (list == null || !areSizes(width, stretch, shrink)) {
            return false;
        }
        if (stretch < 0 || shrink < 0 || order < 0 || order >= ORDERS) {
            return false;
        }
        return join(list, Item.ofGlue(width, stretch, order, shrink));
    }

    public boolean kern(int width) {
        ItemList list = innermost();
        if (list == null || !isSize(width)) {
            return false;
        }
        return join(list, new Item(KERN, width, 0, 0));
    }

    public boolean penalty(int p) {
        ItemList list = innermost();
        if (list == null) {
            return false;
        }
        return join(list, Item.ofPenalty(p));
    }

    public int close(int spec, int amount, int limit, int k)
            throws IllegalStateException, IllegalArgumentException, UnsupportedOperationException {
        ItemList list = innermost();
        if (list == null) {
            throw new IllegalStateException("no list is open");
        }
        if (spec < 0 || spec > JUST || !isSize(amount) || !isSize(limit) || !isRegister(k)) {
            throw new IllegalArgumentException("no such spec, amount, limit or register");
        }
        Measure measure = measured(list, limit);
        long wanted = wanted(spec, amount, measure.natural);
        if (itemsInAll >= MOST_ITEMS || !measure.canBeBoxed() || !isSize(wanted)) {
            throw new UnsupportedOperationException("the box can't be made");
        }
        Box box = new Box(list, measure, (int) wanted);
        openLists--;
        lists[openLists] = null;
        itemsInAll += 1 - itemsOf(registers[k]);
        registers[k] = box;
        return (int) wanted;
    }

    public boolean put(int k, int shift, boolean copies) {
        ItemList list = innermost();
        Box box = boxIn(k);
        if (list == null || box == null || !isSize(shift)) {
            return false;
        }
        int added = copies ? itemsOf(box) : 0;
        if (itemsInAll + added > MOST_ITEMS) {
            return false;
        }
        list.items.add(Item.ofBox(box, shift));
        itemsInAll += added;
        if (!copies) {
            registers[k] = null;
        }
        return true;
    }

    public boolean unbox(int k) {
        ItemList list = innermost();
        Box box = boxIn(k);
        if (list == null || box == null || box.list.vertical != list.vertical) {
            return false;
        }
        ArrayList<Item> freed = box.list.items;
        for (int i = 0; i < freed.size(); i++) {
            list.items.add(freed.get(i));
        }
        itemsInAll--;
        registers[k] = null;
        return true;
    }

    public boolean size(int k, int which, int v) {
        Box box = boxIn(k);
        if (box == null || !isSize(v)) {
            return false;
        }
        switch (which) {
            case 0:
                box.width = v;
                return true;
            case 1:
                box.height = v;
                return true;
            case 2:
                box.depth = v;
                return true;
            default:
                return false;
        }
    }

    public int about(int k, int what) throws IndexOutOfBoundsException {
        if (!isRegister(k) || what < 0 || what > 5) {
            throw new IndexOutOfBoundsException("no such register or what");
        }
        Box box = registers[k];
        return box == null ? 0 : box.tell(what);
    }

    public int item(int k, int i, int what) throws IndexOutOfBoundsException {
        Box box = boxIn(k);
        if (box == null || i < 0 || i >= box.list.items.size() || what < 0 || what > 5) {
            throw new IndexOutOfBoundsException("no such register, item or what");
        }
        Item it = box.list.items.get(i);
        boolean asSet = it.kind == GLUE && what == 1 && i < box.setWidths.length;
        return asSet ? box.setWidths[i] : it.tell(what);
    }

    public int count(int what) {
        switch (what) {
            case 0:
                return openLists;
            case 1:
                return itemsInAll;
            default:
                return NONE;
        }
    }

    private ItemList innermost() {
        return openLists > 0 ? lists[openLists - 1] : null;
    }

    private Box boxIn(int k) {
        return isRegister(k) ? registers[k] : null;
    }

    private boolean join(ItemList list, Item it) {
        if (itemsInAll >= MOST_ITEMS) {
            return false;
        }
        list.items.add(it);
        itemsInAll++;
        return true;
    }

    private static int itemsOf(Box box) {
        return box == null ? 0 : 1 + box.within;
    }

    private static boolean isRegister(int k) {
        return k >= 0 && k < REGISTERS;
    }

    private static boolean isSize(long v) {
        return v >= -LARGEST_SIZE && v <= LARGEST_SIZE;
    }

    private static boolean areSizes(int a, int b, int c) {
        return isSize(a) && isSize(b) && isSize(c);
    }

    private static long wanted(int spec, int amount, long natural) {
        if (spec == JUST) {
            return amount;
        }
        return spec == MORE_BY ? natural + amount : natural;
    }

    private static Measure measured(ItemList list, int limit) {
        Measure measure = new Measure();
        for (int i = 0; i < list.items.size(); i++) {
            Item it = list.items.get(i);
            measure.takeGlueAndBoxes(it);
            if (list.vertical) {
                measure.takeDownwards(it);
            } else {
                measure.takeAcross(it);
            }
        }
        if (list.vertical) {
            measure.limitDepth(limit);
        }
        return measure;
    }

    /** Glue belongs to the list, its setting to the box: unboxed glue has its own width again. */
    private static int[] setGlue(ItemList list, Measure measure, long excess) {
        int[] widths = new int[list.items.size()];
        int order = measure.highestOrder();
        long whole = excess < 0 ? measure.shrinks : measure.stretches[order];
        long shared = Math.max(excess, -whole);
        long parts = 0;
        long given = 0;
        for (int i = 0; i < widths.length; i++) {
            Item it = list.items.get(i);
            parts += excess < 0 ? it.shrink : it.stretchOf(order);
            long givenUpToHere = near(shared * parts, whole);
            widths[i] = asSetWidth(it.width + givenUpToHere - given);
            given = givenUpToHere;
        }
        return widths;
    }

    private static int asSetWidth(long width) {
        return (int) Math.max(-LARGEST_SET, Math.min(LARGEST_SET, width));
    }

    /** A whole of 0 stands for a list without any such stretch or shrink: nothing is given. */
    private static long near(long a, long whole) {
        if (whole <= 0) {
            return 0;
        }
        long rounded = (2 * Math.abs(a) + whole) / (2 * whole);
        return a < 0 ? -rounded : rounded;
    }

    private static final class ItemList {
        final boolean vertical;
        final ArrayList<Item> items;

        ItemList(boolean vertical) {
            this.vertical = vertical;
            items = new ArrayList<>();
        }
    }

    /**
     * An item never changes once it has joined a list. A box that has become an item can never be
     * opened again, so its sizes, how many items it has and how deep it nests are all that is kept.
     */
    private static final class Item {
        final int kind;
        final int width;
        final int height;
        final int depth;
        int running;
        int number;
        int stretch;
        int order;
        int shrink;
        int shift;
        int within;
        int nesting;

        Item(int kind, int width, int height, int depth) {
            this.kind = kind;
            this.width = width;
            this.height = height;
            this.depth = depth;
        }

        static Item ofRule(int width, int height, int depth, int running) {
            Item it = new Item(RULE, width, height, depth);
            it.running = running;
            return it;
        }

        static Item ofGlue(int width, int stretch, int order, int shrink) {
            Item it = new Item(GLUE, width, 0, 0);
            it.stretch = stretch;
            it.order = order;
            it.shrink = shrink;
            return it;
        }

        static Item ofPenalty(int number) {
            Item it = new Item(PENALTY, 0, 0, 0);
            it.number = number;
            return it;
        }

        static Item ofBox(Box box, int shift) {
            Item it = new Item(box.list.vertical ? VBOX : HBOX, box.width, box.height, box.depth);
            it.shift = shift;
            it.within = box.within;
            it.nesting = box.nesting;
            return it;
        }

        boolean isBoxOrRule() {
            return kind == HBOX || kind == VBOX || kind == RULE;
        }

        boolean runs(int bit) {
            return (running & bit) != 0;
        }

        int stretchOf(int wantedOrder) {
            return order == wantedOrder ? stretch : 0;
        }

        /** A penalty's number is no width: it must not count in the sums of a list. */
        int widthOrNumber() {
            return kind == PENALTY ? number : width;
        }

        int tell(int what) {
            switch (what) {
                case 0:
                    return kind;
                case 1:
                    return runs(RUNNING_WIDTH) ? RUNNING_MARK : widthOrNumber();
                case 2:
                    return runs(RUNNING_HEIGHT) ? RUNNING_MARK : height;
                case 3:
                    return runs(RUNNING_DEPTH) ? RUNNING_MARK : depth;
                case 4:
                    return kind == GLUE ? stretch : shift;
                default:
                    return shrink;
            }
        }
    }

    /** The sums and the greatest sizes of a list, as longs because they may be no SIZE. */
    private static final class Measure {
        long natural;
        long greatest;
        long height;
        long depth;
        final long[] stretches;
        long shrinks;
        int within;
        int nestedInside;

        Measure() {
            stretches = new long[ORDERS];
        }

        void takeGlueAndBoxes(Item it) {
            if (it.order >= 0 && it.order < ORDERS) {
                stretches[it.order] += it.stretch;
            }
            shrinks += it.shrink;
            within += 1 + it.within;
            nestedInside = Math.max(nestedInside, it.nesting);
        }

        void takeAcross(Item it) {
            natural += it.width;
            if (!it.runs(RUNNING_HEIGHT)) {
                height = Math.max(height, (long) it.height - it.shift);
            }
            if (!it.runs(RUNNING_DEPTH)) {
                depth = Math.max(depth, (long) it.depth + it.shift);
            }
        }

        void takeDownwards(Item it) {
            natural += depth;
            depth = 0;
            if (!it.isBoxOrRule()) {
                natural += it.width;
                return;
            }
            natural += it.height;
            depth = it.depth;
            if (!it.runs(RUNNING_WIDTH)) {
                greatest = Math.max(greatest, (long) it.width + it.shift);
            }
        }

        void limitDepth(int limit) {
            if (depth > limit) {
                natural += depth - limit;
                depth = limit;
            }
        }

        int highestOrder() {
            int order = ORDERS - 1;
            while (order > 0 && stretches[order] == 0) {
                order--;
            }
            return order;
        }

        boolean canBeBoxed() {
            for (int order = 0; order < ORDERS; order++) {
                if (!isSize(stretches[order])) {
                    return false;
                }
            }
            return isSize(natural) && isSize(shrinks) && nestedInside < MOST_NESTED
                    && isSize(greatest) && isSize(height) && isSize(depth);
        }
    }

    private static final class Box {
        final ItemList list;
        final int[] setWidths;
        final int within;
        final int nesting;
        int width;
        int height;
        int depth;

        Box(ItemList list, Measure measure, int wanted) {
            this.list = list;
            setWidths = setGlue(list, measure, wanted - measure.natural);
            within = measure.within;
            nesting = measure.nestedInside + 1;
            width = list.vertical ? (int) measure.greatest : wanted;
            height = list.vertical ? wanted : (int) measure.height;
            depth = (int) measure.depth;
        }

        int tell(int what) {
            switch (what) {
                case 0:
                    return list.vertical ? 2 : 1;
                case 1:
                    return width;
                case 2:
                    return height;
                case 3:
                    return depth;
                case 4:
                    return list.items.size();
                default:
                    return within;
            }
        }
    }
}
