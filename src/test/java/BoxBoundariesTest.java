/** The boundaries of how a list becomes a box (promise 8 and its Terms), a method for each sentence. */
public final class BoxBoundariesTest {
    private static final int MAX = Boundary.MAX;
    private static final Checks CHECKS = new Checks();
    private static final Boundary AT = new Boundary(CHECKS);

    private BoxBoundariesTest() {
    }

    public static void main(String[] args) {
        naturalWidthOfAnHbox();
        heightOfAnHboxIsZeroIfNoneIsMore();
        depthOfAnHboxIsZeroIfNoneIsMore();
        shiftsInAnHbox();
        runningInAnHboxDoesNotCount();
        naturalHeightOfAVbox();
        depthOfAVboxIsThatOfTheLastItem();
        depthOfAVboxIsZeroWithoutALastBoxOrRule();
        depthMoreThanTheLimit();
        limitBelowZero();
        widthOfAVboxIsZeroIfNoneIsMore();
        shiftsInAVbox();
        runningInAVboxDoesNotCount();
        excessIsWantedLessNatural();
        highestOrderWithAnyStretch();
        stretchHasNoEnd();
        shrinkEndsWithAllShrinks();
        withoutAnySuchStretchOrShrink();
        glueThatGetsNothing();
        glueOfOtherOrdersBetween();
        settingBelongsToTheBox();
        sumOfWidthsOfAnHbox();
        sumOfWidthsBelowZero();
        sumsDoNotWrapAround();
        sumOfHeightsAndDepthsOfAVbox();
        sumBelowZeroOfAVbox();
        restOverTheLimitCounts();
        stretchesOfAnOrder();
        allShrinks();
        ownWidthAndHeightBySpec();
        ownHeightAndDepthOfAnHbox();
        ownWidthOfAVbox();
        changedSizesCount();
        hundredBoxesInsideOneAnother();
        hundredBoxesSideBySide();
        CHECKS.end();
    }

    /** An item of this kind (as item tells it), its width this one; a box's is that of register 0. */
    private static boolean add(Desk x, int kind, int width) {
        switch (kind) {
            case 1:
                return x.character(width, 0, 0);
            case 2:
                x.open(false);
                x.kern(width);
                x.close(0, 0, 0, 0);
                return x.put(0, 0, false);
            case 3:
                Boundary.box(x, true, 0, 0, 0);
                x.size(0, 0, width);
                return x.put(0, 0, false);
            case 4:
                return x.rule(width, 0, 0, 0);
            case 5:
                return x.glue(width, 0, 0, 0);
            case 6:
                return x.kern(width);
            default:
                return x.penalty(width);
        }
    }

    private static void naturalWidthOfAnHbox() {
        AT.sentence("Promise 8", "natural width: the widths of all items together");
        Desk x = AT.desk();
        x.open(false);
        AT.shows("an empty list", x.close(0, 0, 0, 1), 0);
        for (int kind = 1; kind < 8; kind++) {
            Desk y = AT.desk();
            y.open(false);
            y.kern(1000);
            add(y, kind, -30);
            add(y, kind, 7);
            AT.shows("kind " + kind, y.close(0, 0, 0, 1), kind == 7 ? 1000 : 977);
            AT.sizes("kind " + kind, y, 1, kind == 7 ? 1000 : 977, 0, 0, 3);
        }
    }

    private static void hboxOfOne(String what, int height, int depth, int dueHeight, int dueDepth) {
        Desk x = AT.desk();
        x.open(false);
        x.character(1, height, depth);
        x.close(0, 0, 0, 0);
        AT.sizes("a character, " + what, x, 0, 1, dueHeight, dueDepth);
        x.open(false);
        x.rule(1, height, depth, 0);
        x.close(0, 0, 0, 0);
        AT.sizes("a rule, " + what, x, 0, 1, dueHeight, dueDepth);
        for (boolean vertical : Boundary.KINDS) {
            Boundary.box(x, vertical, 1, 0, 0);
            x.size(0, 1, height);
            x.size(0, 2, depth);
            x.open(false);
            x.put(0, 0, false);
            x.close(0, 0, 0, 0);
            AT.sizes("a box, " + what, x, 0, 1, dueHeight, dueDepth);
        }
    }

    private static void heightOfAnHboxIsZeroIfNoneIsMore() {
        AT.sentence("Promise 8", "height: the greatest height .. 0 if none is more");
        hboxOfOne("height -1", -1, 0, 0, 0);
        hboxOfOne("height 0", 0, 0, 0, 0);
        hboxOfOne("height 1", 1, 0, 1, 0);
        hboxOfOne("the least", -MAX, 0, 0, 0);
        hboxOfOne("the greatest", MAX, 0, MAX, 0);
        Desk x = AT.desk();
        x.open(false);
        x.character(0, 3, 0);
        x.character(0, 5, 0);
        x.rule(0, 4, 0, 0);
        x.close(0, 0, 0, 0);
        AT.sizes("the greatest of three", x, 0, 0, 5, 0);
    }

    private static void depthOfAnHboxIsZeroIfNoneIsMore() {
        AT.sentence("Promise 8", "depth likewise");
        hboxOfOne("depth -1", 0, -1, 0, 0);
        hboxOfOne("depth 0", 0, 0, 0, 0);
        hboxOfOne("depth 1", 0, 1, 0, 1);
        hboxOfOne("the least", 0, -MAX, 0, 0);
        hboxOfOne("the greatest", 0, MAX, 0, MAX);
        Desk x = AT.desk();
        x.open(false);
        x.character(0, 0, 3);
        x.rule(0, 0, 5, 0);
        x.character(0, 0, 4);
        x.close(0, 0, -MAX, 0);
        AT.sizes("the greatest of three, whatever the limit", x, 0, 0, 0, 5);
    }

    private static void shiftsInAnHbox() {
        AT.sentence("Promise 8", "the greatest height (less the shift, of a box) .. depth likewise (with the shift)");
        int[][] shiftHeightDepth = {{4, 1, 9}, {5, 0, 10}, {6, 0, 11}, {-4, 9, 1}, {-5, 10, 0}, {-6, 11, 0},
            {0, 5, 5}, {MAX - 5, 0, MAX}, {5 - MAX, MAX, 0}};
        for (int[] row : shiftHeightDepth) {
            for (boolean vertical : Boundary.KINDS) {
                Desk x = AT.desk();
                Boundary.box(x, vertical, 2, 5, 5);
                x.open(false);
                x.put(0, row[0], false);
                x.close(0, 0, 0, 1);
                AT.sizes("shift " + row[0], x, 1, 2, row[1], row[2]);
            }
        }
    }

    private static void runningInAnHboxDoesNotCount() {
        AT.sentence("Promise 8", "what is running does not count (in an hbox)");
        int[][] runningHeightDepth = {{0, 50, 60}, {2, 3, 60}, {4, 50, 4}, {6, 3, 4}};
        for (int[] row : runningHeightDepth) {
            Desk x = AT.desk();
            x.open(false);
            x.rule(7, 50, 60, row[0]);
            x.character(1, 3, 4);
            x.close(0, 0, 0, 0);
            AT.sizes("running " + row[0], x, 0, 8, row[1], row[2]);
        }
    }

    private static void naturalHeightOfAVbox() {
        AT.sentence("Promise 8", "natural height: heights and depths of its rules and boxes,"
                + " widths of glue and kerns, together");
        Desk x = AT.desk();
        x.open(true);
        AT.shows("an empty list", x.close(0, 0, MAX, 1), 0);
        Boundary.box(x, false, 900, 10, 20);
        x.open(true);
        x.put(0, 800, false);
        x.rule(700, 100, 200, 0);
        x.rule(700, 1000, 2000, 1);
        x.glue(10000, 0, 0, 0);
        x.kern(-20000);
        x.penalty(1000000);
        AT.shows("one of each", x.close(0, 0, MAX, 1), -6670);
        AT.sizes("one of each", x, 1, 1700, -6670, 0, 6, 7);
    }

    private static void depthOfAVboxIsThatOfTheLastItem() {
        AT.sentence("Promise 8", "the depth of the last item, if that is a box or rule, is the box's depth");
        int[] depths = {-MAX, -1, 0, 1, MAX};
        for (int depth : depths) {
            Desk x = AT.desk();
            x.open(true);
            x.rule(0, 5, 0, 0);
            x.rule(1, 6, depth, 0);
            AT.shows("a rule of depth " + depth, x.close(0, 0, MAX, 0), 11);
            AT.sizes("a rule of depth " + depth, x, 0, 1, 11, depth);
            for (boolean vertical : Boundary.KINDS) {
                Boundary.box(x, vertical, 1, 6, 0);
                x.size(0, 2, depth);
                x.open(true);
                x.rule(0, 5, 7, 0);
                x.put(0, 3, false);
                AT.shows("a box of depth " + depth, x.close(0, 0, MAX, 0), 18);
                AT.sizes("a box of depth " + depth, x, 0, 4, 18, depth);
            }
        }
    }

    private static void depthOfAVboxIsZeroWithoutALastBoxOrRule() {
        AT.sentence("Promise 8", "the box's depth, 0 without one");
        Desk x = AT.desk();
        x.open(true);
        x.close(0, 0, MAX, 0);
        AT.sizes("an empty list", x, 0, 0, 0, 0);
        for (int kind = 5; kind < 8; kind++) {
            x.open(true);
            x.rule(1, 2, 3, 0);
            add(x, kind, 40);
            x.close(0, 0, MAX, 0);
            AT.sizes("the last is of kind " + kind, x, 0, 1, kind == 7 ? 5 : 45, 0);
        }
    }

    private static void limited(int depth, int limit, int dueHeight, int dueDepth) {
        String what = "depth " + depth + ", limit " + limit;
        Desk x = AT.desk();
        x.open(true);
        x.rule(1, 100, depth, 0);
        AT.shows("a rule, " + what, x.close(0, 0, limit, 0), dueHeight);
        AT.sizes("a rule, " + what, x, 0, 1, dueHeight, dueDepth);
        Boundary.box(x, false, 1, 100, depth);
        x.size(0, 2, depth);
        x.open(true);
        x.put(0, 0, false);
        AT.shows("a box, " + what, x.close(1, 5, limit, 0), dueHeight + 5);
        AT.sizes("a box, " + what, x, 0, 1, dueHeight + 5, dueDepth);
    }

    private static void depthMoreThanTheLimit() {
        AT.sentence("Promise 8", "if this is more than the LIMIT, it is the LIMIT,"
                + " and the natural height is more by the rest");
        limited(8, 9, 100, 8);
        limited(8, 8, 100, 8);
        limited(8, 7, 101, 7);
        limited(8, 0, 108, 0);
        limited(8, -1, 109, -1);
        limited(-8, -7, 100, -8);
        limited(-8, -8, 100, -8);
        limited(-8, -9, 101, -9);
        limited(MAX, MAX, 100, MAX);
        limited(MAX, MAX - 1, 101, MAX - 1);
        limited(-MAX, -MAX, 100, -MAX);
        limited(1 - MAX, -MAX, 101, -MAX);
        Desk x = AT.desk();
        x.open(true);
        x.glue(10, 1, 0, 0);
        x.rule(0, 0, 5, 0);
        x.close(2, 20, 3, 0);
        AT.sizes("the rest is no excess", x, 0, 0, 20, 3);
        AT.widths("the rest is no excess", x, 0, 18, 0);
    }

    private static void limitBelowZero() {
        AT.sentence("Promise 8", "0 without one; if this is more than the LIMIT, it is the LIMIT");
        int[][] limitHeight = {{1, 40}, {0, 40}, {-1, 41}, {-30, 70}, {40 - MAX, MAX}};
        for (int[] row : limitHeight) {
            Desk x = AT.desk();
            x.open(true);
            x.kern(40);
            AT.shows("limit " + row[0], x.close(0, 0, row[0], 0), row[1]);
            AT.sizes("limit " + row[0], x, 0, 0, row[1], Math.min(row[0], 0));
        }
    }

    private static void widthOfAVboxIsZeroIfNoneIsMore() {
        AT.sentence("Promise 8", "Width: the greatest width .. of its rules and boxes, 0 if none is more");
        int[] widths = {-MAX, -1, 0, 1, MAX};
        for (int width : widths) {
            Desk x = AT.desk();
            x.open(true);
            x.rule(width, 0, 0, 0);
            x.close(0, 0, 0, 0);
            AT.sizes("a rule of width " + width, x, 0, Math.max(width, 0), 0, 0);
            for (boolean vertical : Boundary.KINDS) {
                Boundary.box(x, vertical, 0, 0, 0);
                x.size(0, 0, width);
                x.open(true);
                x.put(0, 0, false);
                x.close(0, 0, 0, 0);
                AT.sizes("a box of width " + width, x, 0, Math.max(width, 0), 0, 0);
            }
        }
        Desk y = AT.desk();
        y.open(true);
        y.rule(3, 0, 0, 0);
        y.rule(5, 0, 0, 0);
        y.rule(4, 0, 0, 0);
        y.glue(60, 0, 0, 0);
        y.kern(70);
        y.penalty(80);
        y.close(0, 0, 0, 0);
        AT.sizes("the greatest of three, no glue, kern or penalty", y, 0, 5, 130, 0);
    }

    private static void shiftsInAVbox() {
        AT.sentence("Promise 8", "the greatest width (and shift, of a box)");
        int[][] shiftWidth = {{0, 5}, {1, 6}, {-4, 1}, {-5, 0}, {-6, 0}, {-MAX, 0}, {MAX - 5, MAX}};
        for (int[] row : shiftWidth) {
            for (boolean vertical : Boundary.KINDS) {
                Desk x = AT.desk();
                Boundary.box(x, vertical, 5, 2, 3);
                x.open(true);
                x.put(0, row[0], false);
                x.close(0, 0, MAX, 1);
                AT.sizes("shift " + row[0], x, 1, row[1], 2, 3);
            }
        }
    }

    private static void runningInAVboxDoesNotCount() {
        AT.sentence("Promise 8", "running ones do not count (in a vbox)");
        Desk x = AT.desk();
        x.open(true);
        x.rule(50, 1, 2, 1);
        x.close(0, 0, 0, 0);
        AT.sizes("the only width runs", x, 0, 0, 3, 0);
        x.open(true);
        x.rule(7, 0, 0, 0);
        x.rule(50, 1, 2, 1);
        x.close(0, 0, MAX, 0);
        AT.sizes("one width runs", x, 0, 7, 1, 2);
    }

    /** A list of glue with these rows of width, stretch, order and shrink, set to an amount. */
    private static void set(String what, boolean vertical, int[][] glue, int spec, int amount, int... due) {
        Desk x = AT.desk();
        x.open(vertical);
        for (int[] row : glue) {
            x.glue(row[0], row[1], row[2], row[3]);
        }
        x.close(spec, amount, 0, 0);
        AT.widths(what, x, 0, due);
    }

    private static void excessIsWantedLessNatural() {
        AT.sentence("Promise 8", "EXCESS: what is wanted less what is natural. If it is above 0 .. below 0");
        int[][] glue = {{5, 2, 0, 3}, {0, 0, 0, 0}};
        for (boolean vertical : Boundary.KINDS) {
            set("natural", vertical, glue, 0, 9, 5, 0);
            set("0 more", vertical, glue, 1, 0, 5, 0);
            set("1 more", vertical, glue, 1, 1, 6, 0);
            set("1 less", vertical, glue, 1, -1, 4, 0);
            set("just 5", vertical, glue, 2, 5, 5, 0);
            set("just 6", vertical, glue, 2, 6, 6, 0);
            set("just 4", vertical, glue, 2, 4, 4, 0);
        }
    }

    private static void highestOrderWithAnyStretch() {
        AT.sentence("Promise 8", "the stretches of the highest order together of which there is any stretch");
        for (boolean vertical : Boundary.KINDS) {
            for (int highest = 0; highest < 4; highest++) {
                int[][] glue = new int[4][];
                int[] due = new int[4];
                for (int order = 0; order < 4; order++) {
                    glue[order] = new int[] {10 * order, order < highest ? 900 : order == highest ? 1 : 0, order, 0};
                    due[order] = 10 * order + (order == highest ? 77 : 0);
                }
                set("order " + highest, vertical, glue, 1, 77, due);
            }
        }
    }

    private static void stretchHasNoEnd() {
        AT.sentence("Promises 8 and 13", "E the excess .. of glue as it is set, at most 2147483647");
        int[][] widthSet = {{0, 2147483646}, {1, 2147483647}, {2, 2147483647}, {3, 2147483647}, {MAX, 2147483647},
            {-1, 2147483645}};
        for (int[] row : widthSet) {
            for (boolean vertical : Boundary.KINDS) {
                Desk x = AT.desk();
                x.open(vertical);
                x.glue(row[0], 1, 2, 0);
                x.kern(row[0] > 0 ? -row[0] : 0);
                x.kern(row[0] < 0 ? -row[0] : 0);
                x.kern(-MAX);
                AT.shows("just so much", x.close(2, MAX, 0, 0), MAX);
                AT.shows("glue of width " + row[0], x.item(0, 0, 1), row[1]);
            }
        }
    }

    private static void shrinkEndsWithAllShrinks() {
        AT.sentence("Promises 8 and 13", "E the excess, but at least -S .. as it is set .. at least -2147483647");
        int[][] glue = {{10, 0, 0, 2}, {10, 0, 3, 3}};
        for (boolean vertical : Boundary.KINDS) {
            set("one short of all", vertical, glue, 2, 16, 8, 8);
            set("all", vertical, glue, 2, 15, 8, 7);
            set("more than all", vertical, glue, 2, 14, 8, 7);
            set("much more than all", vertical, glue, 2, -MAX, 8, 7);
            Desk x = AT.desk();
            x.open(vertical);
            x.kern(MAX);
            x.glue(-MAX, 0, 0, MAX);
            x.close(2, -MAX, 0, 0);
            AT.widths("the least that can be set", x, 0, MAX, -2147483646);
        }
    }

    private static void withoutAnySuchStretchOrShrink() {
        AT.sentence("Promise 8", "Without any such stretch or shrink nothing is set");
        for (boolean vertical : Boundary.KINDS) {
            set("no stretch", vertical, new int[][] {{4, 0, 3, 9}, {5, 0, 0, 9}}, 1, 100, 4, 5);
            set("no shrink", vertical, new int[][] {{4, 9, 3, 0}, {5, 9, 0, 0}}, 1, -100, 4, 5);
            Desk x = AT.desk();
            x.open(vertical);
            AT.shows("an empty list, more", x.close(1, 100, 0, 0), 100);
            x.open(vertical);
            AT.shows("an empty list, less", x.close(1, -100, 0, 0), -100);
            x.open(vertical);
            x.kern(6);
            AT.shows("no glue", x.close(2, 100, 0, 0), 100);
            AT.widths("no glue", x, 0, 6);
        }
    }

    private static void glueThatGetsNothing() {
        AT.sentence("Promise 8", "Glue that gets nothing has its width");
        int[][] glue = {{-7, 0, 1, 0}, {1, 3, 1, 2}, {-8, 0, 1, 0}, {2, 3, 1, 2}, {-9, 0, 1, 0}};
        for (boolean vertical : Boundary.KINDS) {
            set("more", vertical, glue, 1, 6, -7, 4, -8, 5, -9);
            set("less", vertical, glue, 1, -4, -7, -1, -8, 0, -9);
            set("as it is", vertical, glue, 0, 0, -7, 1, -8, 2, -9);
        }
    }

    private static void glueOfOtherOrdersBetween() {
        AT.sentence("Promise 8", "the k-th glue of this order gets NEAR(E * C, S) less NEAR(E * B, S) more .."
                + " C the sum of these stretches up to it, B without it");
        int[][] glue = {{0, 1, 2, 1}, {0, 50, 1, 1}, {0, 1, 2, 0}, {0, 50, 0, 0}, {0, 1, 2, 1}};
        for (boolean vertical : Boundary.KINDS) {
            set("1 among 3", vertical, glue, 1, 1, 0, 0, 1, 0, 0);
            set("2 among 3", vertical, glue, 1, 2, 1, 0, 0, 0, 1);
            set("4 among 3", vertical, glue, 1, 4, 1, 0, 2, 0, 1);
            set("-1 among 3 of any order", vertical, glue, 1, -1, 0, -1, 0, 0, 0);
            set("-2 among 3 of any order", vertical, glue, 1, -2, -1, 0, 0, 0, -1);
        }
    }

    private static void settingBelongsToTheBox() {
        AT.sentence("Promises 8 and 10", "Glue that gets nothing has its width (after its box is gone, too)");
        for (boolean vertical : Boundary.KINDS) {
            Desk x = AT.desk();
            x.open(vertical);
            x.glue(5, 1, 0, 2);
            x.close(2, 50, 0, 0);
            AT.widths("stretched", x, 0, 50);
            x.open(vertical);
            x.unbox(0);
            AT.shows("natural again", x.close(0, 0, 0, 0), 5);
            AT.widths("natural again", x, 0, 5);
            x.open(vertical);
            x.unbox(0);
            x.close(2, -50, 0, 0);
            AT.widths("shrunk", x, 0, 3);
        }
    }

    private static void keptBox(Desk x) {
        x.open(true);
        x.kern(77);
        x.close(0, 0, 0, 9);
    }

    /** Whatever was in register 9 is still there. */
    private static void cantBeMade(String what) {
        AT.changesNothing(what + ", spec 0", Boundary.NO_BOX, x -> x.close(0, 0, MAX, 9));
        AT.changesNothing(what + ", spec 1", Boundary.NO_BOX, x -> x.close(1, 0, MAX, 9));
        AT.changesNothing(what + ", spec 2", Boundary.NO_BOX, x -> x.close(2, 0, MAX, 9));
    }

    private static void sumOfWidthsOfAnHbox() {
        AT.sentence("Promise 8", "A box can't be made, if a sum of its items' widths .. is no SIZE"
                + " .. (the list is open still)");
        for (int k = 1; k < 7; k++) {
            int kind = k;
            AT.before(x -> {
                x.open(false);
                add(x, kind, 1);
                x.kern(MAX - 1);
            });
            AT.answers("kind " + k + ", the greatest", MAX, x -> x.close(0, 0, 0, 9));
            AT.answers("kind " + k + ", the greatest, just 3", 3, x -> x.close(2, 3, 0, 9));
            AT.before(x -> {
                keptBox(x);
                x.open(false);
                add(x, kind, 1);
                x.kern(MAX);
            });
            AT.mend(x -> x.kern(-1));
            cantBeMade("kind " + k + ", too much");
            AT.changesNothing("kind " + k + ", less", Boundary.NO_BOX, x -> x.close(1, -1, 0, 9));
        }
    }

    private static void sumOfWidthsBelowZero() {
        AT.sentence("Promise 8", "A box can't be made, if a sum of its items' widths .. is no SIZE (below 0)");
        AT.before(x -> {
            x.open(false);
            x.character(-MAX, 0, 0);
        });
        AT.answers("the least", -MAX, x -> x.close(0, 0, 0, 9));
        AT.answers("the least and all above", 0, x -> x.close(1, MAX, 0, 9));
        AT.before(x -> {
            x.open(false);
            x.character(-MAX, 0, 0);
            x.character(-1, 0, 0);
        });
        AT.mend(x -> x.kern(1));
        cantBeMade("too little");
        AT.changesNothing("too little, more", Boundary.NO_BOX, x -> x.close(1, 1, 0, 9));
    }

    /** Four times the greatest SIZE and 4 are 2 to the 32nd: 0 in an int. */
    private static void sumsDoNotWrapAround() {
        AT.sentence("Promise 8", "A box can't be made, if a sum .. is no SIZE (without a wrap-around)");
        for (boolean vertical : Boundary.KINDS) {
            for (int s = -1; s < 2; s += 2) {
                int sign = s;
                AT.before(x -> {
                    x.open(vertical);
                    for (int i = 0; i < 4; i++) {
                        x.kern(sign * MAX);
                    }
                    x.kern(sign * 4);
                });
                AT.mend(x -> {
                    for (int i = 0; i < 4; i++) {
                        x.kern(-sign * MAX);
                    }
                });
                cantBeMade("widths");
                Desk y = AT.desk();
                for (int i = 0; i < 4; i++) {
                    y.kern(-sign * MAX);
                }
                AT.shows("together 4", y.close(0, 0, 0, 0), sign * 4);
            }
            AT.before(x -> {
                x.open(vertical);
                for (int i = 0; i < 4; i++) {
                    x.glue(0, MAX, 1, 0);
                }
                x.glue(0, 4, 1, 0);
            });
            cantBeMade("stretches");
            AT.before(x -> {
                x.open(vertical);
                for (int i = 0; i < 4; i++) {
                    x.glue(0, 0, i, MAX);
                }
                x.glue(0, 0, 0, 4);
            });
            cantBeMade("shrinks");
        }
        AT.before(x -> {
            x.open(true);
            for (int i = 0; i < 2; i++) {
                x.rule(0, MAX, MAX, 0);
            }
            x.rule(0, 4, 0, 0);
        });
        AT.mend(x -> {
            for (int i = 0; i < 4; i++) {
                x.kern(-MAX);
            }
        });
        cantBeMade("heights and depths");
    }

    /** Makes a vertical list longer by 1: by a height or a depth that is not the last, by glue, by a kern. */
    private static void lengthen(Desk x, int way) {
        if (way < 2) {
            x.rule(0, way == 0 ? 1 : 0, way == 0 ? 0 : 1, 0);
        } else if (way < 6) {
            Boundary.box(x, way < 4, 0, 0, 0);
            x.size(0, way % 2 == 0 ? 1 : 2, 1);
            x.put(0, 0, false);
        } else if (way == 6) {
            x.glue(1, 0, 0, 0);
        } else {
            x.kern(1);
        }
        x.penalty(0);
    }

    private static void sumOfHeightsAndDepthsOfAVbox() {
        AT.sentence("Promise 8", "A box can't be made, if a sum of its items' .. (heights, depths) .. is no SIZE");
        for (int w = 0; w < 8; w++) {
            int way = w;
            AT.before(x -> {
                x.open(true);
                x.kern(MAX - 1);
                lengthen(x, way);
            });
            AT.answers("way " + w + ", the greatest", MAX, x -> x.close(0, 0, 0, 9));
            AT.answers("way " + w + ", the greatest, just 3", 3, x -> x.close(2, 3, 0, 9));
            AT.before(x -> {
                x.open(true);
                x.kern(MAX);
                lengthen(x, way);
            });
            AT.mend(x -> x.kern(-1));
            cantBeMade("way " + w + ", too much");
            AT.changesNothing("way " + w + ", less", Boundary.NO_BOX, x -> x.close(1, -1, 0, 9));
        }
    }

    private static void sumBelowZeroOfAVbox() {
        AT.sentence("Promise 8", "A box can't be made, if a sum of its items' .. (heights, depths) .. is no SIZE"
                + " (below 0)");
        AT.before(x -> {
            x.open(true);
            x.rule(0, -MAX, 0, 0);
            x.rule(0, 0, -1, 0);
        });
        AT.answers("the least, the last depth is no part of it", -MAX, x -> x.close(0, 0, 0, 9));
        AT.before(x -> {
            x.open(true);
            x.rule(0, -MAX, 0, 0);
            x.rule(0, 0, -1, 0);
            x.penalty(0);
        });
        AT.mend(x -> x.kern(1));
        cantBeMade("too little");
        AT.changesNothing("too little, more", Boundary.NO_BOX, x -> x.close(1, 1, 0, 9));
    }

    private static void restOverTheLimitCounts() {
        AT.sentence("Promise 8", "the natural height is more by the rest .. A box can't be made, if"
                + " .. a size of its own is no SIZE");
        AT.before(x -> {
            x.open(true);
            x.rule(0, MAX - 3, 10, 0);
        });
        AT.mend(x -> x.kern(-100));
        Desk x = AT.answers("limit 7", MAX, d -> d.close(0, 0, 7, 9));
        AT.sizes("limit 7", x, 9, 0, MAX, 7);
        AT.changesNothing("limit 6", Boundary.NO_BOX, d -> d.close(0, 0, 6, 9));
        AT.changesNothing("limit 6, 0 more", Boundary.NO_BOX, d -> d.close(1, 0, 6, 9));
        AT.changesNothing("limit -1073741823", Boundary.NO_BOX, d -> d.close(0, 0, -MAX, 9));
    }

    private static void stretchesOfAnOrder() {
        AT.sentence("Promise 8", "A box can't be made, if a sum .. of the stretches of an order .. is no SIZE");
        for (boolean vertical : Boundary.KINDS) {
            for (int o = 0; o < 4; o++) {
                int order = o;
                AT.before(x -> {
                    x.open(vertical);
                    x.glue(0, MAX - 1, order, 0);
                    x.glue(0, MAX, (order + 1) % 4, 0);
                    x.glue(0, MAX, (order + 2) % 4, 0);
                    x.glue(0, MAX, (order + 3) % 4, 0);
                    x.glue(0, 1, order, 0);
                });
                AT.answers("order " + o + ", the greatest", 0, x -> x.close(0, 0, 0, 9));
                AT.before(x -> {
                    keptBox(x);
                    x.open(vertical);
                    x.glue(0, MAX, order, 0);
                    x.kern(-1);
                    x.glue(0, 1, order, 0);
                });
                cantBeMade("order " + o + ", too much");
            }
        }
    }

    private static void allShrinks() {
        AT.sentence("Promise 8", "A box can't be made, if a sum .. of all shrinks .. is no SIZE");
        for (boolean vertical : Boundary.KINDS) {
            for (int o = 0; o < 4; o++) {
                int order = o;
                AT.before(x -> {
                    x.open(vertical);
                    x.glue(0, MAX, 1, MAX - 1);
                    x.glue(0, 0, order, 1);
                });
                AT.answers("order " + o + ", the greatest", 0, x -> x.close(0, 0, 0, 9));
                AT.before(x -> {
                    keptBox(x);
                    x.open(vertical);
                    x.glue(0, 0, 1, MAX);
                    x.glue(0, 0, order, 1);
                });
                cantBeMade("order " + o + ", too much");
            }
        }
    }

    private static void ownWidthAndHeightBySpec() {
        AT.sentence("Promise 8", "A box can't be made, if .. a size of its own is no SIZE (with so much more)");
        for (boolean vertical : Boundary.KINDS) {
            AT.before(x -> {
                x.open(vertical);
                x.kern(23);
            });
            AT.answers("the greatest", MAX, x -> x.close(1, MAX - 23, 0, 9));
            AT.changesNothing("too great", Boundary.NO_BOX, x -> x.close(1, MAX - 22, 0, 9));
            AT.changesNothing("by far too great", Boundary.NO_BOX, x -> x.close(1, MAX, 0, 9));
            AT.before(x -> {
                x.open(vertical);
                x.kern(-23);
            });
            AT.answers("the least", -MAX, x -> x.close(1, 23 - MAX, 0, 9));
            AT.changesNothing("too small", Boundary.NO_BOX, x -> x.close(1, 22 - MAX, 0, 9));
            AT.changesNothing("by far too small", Boundary.NO_BOX, x -> x.close(1, -MAX, 0, 9));
        }
    }

    private static void ownHeightAndDepthOfAnHbox() {
        AT.sentence("Promise 8", "A box can't be made, if .. a size of its own is no SIZE"
                + " (an hbox's height and depth)");
        AT.before(x -> {
            Boundary.box(x, false, 1, 20, 30);
            x.open(false);
            x.put(0, 20 - MAX, false);
        });
        Desk x = AT.answers("the greatest height", 1, d -> d.close(0, 0, 0, 9));
        AT.sizes("the greatest height", x, 9, 1, MAX, 0);
        AT.before(d -> {
            Boundary.box(d, false, 1, 20, 30);
            d.open(false);
            d.put(0, 19 - MAX, false);
        });
        cantBeMade("height");
        AT.before(d -> {
            Boundary.box(d, false, 1, 20, 30);
            d.open(false);
            d.put(0, MAX - 30, false);
        });
        Desk y = AT.answers("the greatest depth", 1, d -> d.close(0, 0, 0, 9));
        AT.sizes("the greatest depth", y, 9, 1, 0, MAX);
        AT.before(d -> {
            Boundary.box(d, false, 1, 20, 30);
            d.open(false);
            d.put(0, MAX - 29, false);
        });
        cantBeMade("depth");
    }

    private static void ownWidthOfAVbox() {
        AT.sentence("Promise 8", "A box can't be made, if .. a size of its own is no SIZE (a vbox's width)");
        AT.before(x -> {
            Boundary.box(x, true, 20, 1, 0);
            x.open(true);
            x.put(0, MAX - 20, false);
        });
        Desk x = AT.answers("the greatest", 1, d -> d.close(0, 0, 0, 9));
        AT.sizes("the greatest", x, 9, MAX, 1, 0);
        AT.before(d -> {
            Boundary.box(d, true, 20, 1, 0);
            d.open(true);
            d.put(0, MAX - 19, false);
        });
        cantBeMade("width");
    }

    private static void changedSizesCount() {
        AT.sentence("Promises 8 and 11", "a size of its own is no SIZE (of boxes whose sizes were changed)");
        AT.before(x -> {
            Boundary.box(x, false, 1, 0, 0);
            x.size(0, 1, MAX);
            x.open(false);
            x.put(0, 0, true);
        });
        AT.answers("height, no shift", 1, x -> x.close(0, 0, 0, 9));
        AT.before(x -> {
            Boundary.box(x, false, 1, 0, 0);
            x.size(0, 1, MAX);
            x.open(false);
            x.put(0, -1, true);
        });
        cantBeMade("height, shifted up by 1");
        AT.before(x -> {
            Boundary.box(x, false, 1, 0, 0);
            x.size(0, 0, MAX);
            x.open(false);
            x.put(0, 0, true);
            x.put(0, 0, true);
        });
        AT.mend(x -> x.kern(-MAX));
        cantBeMade("the widths of two");
    }

    private static void hundredBoxesInsideOneAnother() {
        AT.sentence("Promise 8", "A box can't be made, if .. 100 boxes are inside one another in it");
        for (boolean vertical : Boundary.KINDS) {
            for (boolean copies : Boundary.KINDS) {
                AT.before(x -> {
                    Boundary.nest(x, 99);
                    x.open(vertical);
                    x.kern(0);
                    x.put(0, 0, copies);
                    x.penalty(0);
                });
                Desk x = AT.answers("99 boxes", 0, d -> d.close(0, 0, 0, 9));
                AT.sizes("99 boxes", x, 9, 0, 0, 0, 3, 101);
                AT.before(d -> {
                    keptBox(d);
                    Boundary.nest(d, 100);
                    d.open(vertical);
                    d.kern(0);
                    d.put(0, 0, copies);
                    d.penalty(0);
                });
                cantBeMade("100 boxes");
            }
        }
        AT.before(x -> {
            Boundary.nest(x, 100);
            x.open(false);
            x.unbox(0);
        });
        Desk x = AT.answers("unboxed, 99 are left", 0, d -> d.close(0, 0, 0, 9));
        AT.sizes("unboxed, 99 are left", x, 9, 0, 0, 0, 1, 99);
        AT.before(d -> {
            Boundary.nest(d, 100);
            d.open(false);
            d.put(0, 0, false);
            d.open(false);
            d.close(0, 0, 0, 0);
            d.put(0, 0, false);
        });
        cantBeMade("100 boxes and one beside them");
    }

    private static void hundredBoxesSideBySide() {
        AT.sentence("Promise 8", "100 boxes are inside one another (not side by side)");
        for (boolean vertical : Boundary.KINDS) {
            Desk x = AT.desk();
            Boundary.nest(x, 60);
            x.open(vertical);
            x.put(0, 0, true);
            x.put(0, 0, false);
            Boundary.box(x, false, 0, 0, 0);
            for (int i = 0; i < 100; i++) {
                x.put(0, 0, true);
            }
            AT.shows("60, 60 and 100", x.close(0, 0, 0, 9), 0);
            AT.sizes("60, 60 and 100", x, 9, 0, 0, 0, 102, 320);
        }
    }
}
