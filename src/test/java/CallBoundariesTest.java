/** The boundaries of the calls (promises 2 to 14) and of the 4000 items, a method for each sentence. */
public final class CallBoundariesTest {
    private static final int MAX = Boundary.MAX;
    private static final Checks CHECKS = new Checks();
    private static final Boundary AT = new Boundary(CHECKS);

    private CallBoundariesTest() {
    }

    public static void main(String[] args) {
        noListIsOpen();
        noListIsOpenAnyMore();
        the4000thCharacter();
        the4000thRuleGlueKernPenalty();
        the4000thIsABox();
        a4000thInPlaceOfABox();
        openAtTheFullDesk();
        copiesUpTo4000();
        copiesWithAllThatIsInThem();
        movesAtTheFullDesk();
        unboxAtTheFullDesk();
        closeInPlaceOfWhatWasThere();
        closeTellsWidthOrHeight();
        putOfAVoidRegister();
        putLeavesTheRegisterVoidOrKeepsTheBox();
        copiesAreApart();
        unboxOfAVoidRegister();
        unboxOfTheOtherKind();
        unboxInOrder();
        unboxOfAnEmptyBox();
        whichOfSize();
        sizeOfAVoidRegister();
        sizeDoesNotLookAtTheList();
        whatOfAbout();
        aboutAVoidRegister();
        aboutCountsWithAllInside();
        numbersOfItems();
        whatOfItem();
        itemTellsZeroForOthers();
        itemOfAVoidRegister();
        whatOfCount();
        countGoesUpAndDown();
        CHECKS.end();
    }

    /** Every call that needs an open list, on a desk that has a box in register 0. */
    private static void needsAList() {
        AT.refused("character", x -> x.character(1, 2, 3));
        AT.refused("rule", x -> x.rule(1, 2, 3, 0));
        AT.refused("glue", x -> x.glue(1, 2, 3, 4));
        AT.refused("kern", x -> x.kern(1));
        AT.refused("penalty", x -> x.penalty(1));
        AT.refused("put", x -> x.put(0, 1, false));
        AT.refused("put a copy", x -> x.put(0, 1, true));
        AT.refused("unbox", x -> x.unbox(0));
        AT.changesNothing("close", Boundary.NO_LIST, x -> x.close(0, 0, 0, 0));
        AT.changesNothing("close, just 5", Boundary.NO_LIST, x -> x.close(2, 5, 5, 15));
    }

    private static void noListIsOpen() {
        AT.sentence("Promises 3 to 10", "false if no list is open .. IllegalStateException if no list is open");
        needsAList();
        AT.before(x -> x.open(false));
        AT.allowed("character, one list", x -> x.character(1, 2, 3));
        AT.allowed("rule, one list", x -> x.rule(1, 2, 3, 0));
        AT.allowed("glue, one list", x -> x.glue(1, 2, 3, 4));
        AT.allowed("kern, one list", x -> x.kern(1));
        AT.allowed("penalty, one list", x -> x.penalty(1));
        AT.answers("close, one list", 0, x -> x.close(0, 0, 0, 0));
        AT.before(x -> {
            Boundary.box(x, false, 1, 2, 3);
            x.open(false);
        });
        AT.allowed("put, one list", x -> x.put(0, 1, false));
        AT.allowed("put a copy, one list", x -> x.put(0, 1, true));
        AT.allowed("unbox, one list", x -> x.unbox(0));
    }

    private static void noListIsOpenAnyMore() {
        AT.sentence("Promises 3 to 10", "the list is open no more .. false if no list is open");
        for (boolean vertical : Boundary.KINDS) {
            AT.before(x -> Boundary.box(x, vertical, 1, 2, 3));
            needsAList();
        }
    }

    private static void the4000thCharacter() {
        AT.sentence("Promise 3", "There are at most 4000 items .. false if .. there are 4000 items");
        AT.before(x -> Boundary.fill(x, false, 3999));
        AT.shows("items", AT.desk().count(1), 3999);
        Desk x = AT.allowed("the 4000th", d -> d.character(1, 2, 3));
        AT.shows("items then", x.count(1), 4000);
        AT.before(d -> Boundary.fill(d, false, 4000));
        AT.shows("items", AT.desk().count(1), 4000);
        AT.refused("the 4001st", d -> d.character(1, 2, 3));
    }

    private static void fills(String what, Boundary.Question call) {
        for (boolean vertical : Boundary.KINDS) {
            AT.before(x -> Boundary.fill(x, vertical, 3999));
            Desk x = AT.allowed("the 4000th is " + what, call);
            AT.shows("items then", x.count(1), 4000);
            AT.before(d -> Boundary.fill(d, vertical, 4000));
            AT.refused("the 4001st is " + what, call);
        }
    }

    private static void the4000thRuleGlueKernPenalty() {
        AT.sentence("Promises 4 to 7", "There are at most 4000 items .. or there are 4000 items");
        fills("a rule", x -> x.rule(1, 2, 3, 0));
        fills("glue", x -> x.glue(1, 2, 3, 4));
        fills("a kern", x -> x.kern(1));
        fills("a penalty", x -> x.penalty(1));
    }

    private static void the4000thIsABox() {
        AT.sentence("Promise 8", "A box can't be made, if there are 4000 .. UnsupportedOperationException");
        for (boolean vertical : Boundary.KINDS) {
            AT.before(x -> Boundary.fill(x, vertical, 3999));
            Desk x = AT.answers("3999", 0, d -> d.close(0, 0, 0, 9));
            AT.shows("items then", x.count(1), 4000);
            AT.shows("with all inside", x.about(9, 5), 3889);
            AT.before(d -> Boundary.fill(d, vertical, 4000));
            AT.changesNothing("4000", Boundary.NO_BOX, d -> d.close(0, 0, 0, 9));
            AT.changesNothing("4000, just 1", Boundary.NO_BOX, d -> d.close(2, 1, 0, 9));
            AT.before(d -> {
                Boundary.fill(d, vertical, 4000);
                d.open(vertical);
            });
            AT.changesNothing("4000, an empty list", Boundary.NO_BOX, d -> d.close(0, 0, 0, 9));
        }
    }

    private static void a4000thInPlaceOfABox() {
        AT.sentence("Promise 8", "A box can't be made, if there are 4000 (in place of what was there, too)");
        AT.before(x -> Boundary.fill(x, false, 4000));
        AT.changesNothing("in place of 10", Boundary.NO_BOX, x -> x.close(0, 0, 0, 13));
        AT.changesNothing("in place of 100", Boundary.NO_BOX, x -> x.close(0, 0, 0, 14));
        AT.before(x -> Boundary.fill(x, false, 3999));
        Desk x = AT.answers("3999, in place of 100", 0, d -> d.close(0, 0, 0, 14));
        AT.shows("items then", x.count(1), 3900);
    }

    private static void openAtTheFullDesk() {
        AT.sentence("Promise 2", "A list is begun: true; false if 100 are open (a list is no item)");
        AT.before(x -> Boundary.fill(x, false, 4000));
        Desk x = AT.allowed("4000 items", d -> d.open(true));
        AT.shows("lists", x.count(0), 2);
        AT.shows("items", x.count(1), 4000);
    }

    private static void copiesUpTo4000() {
        AT.sentence("Promise 9", "false if .. a copy .. would make more than 4000 items");
        for (boolean vertical : Boundary.KINDS) {
            AT.before(x -> Boundary.fill(x, vertical, 3990));
            Desk x = AT.allowed("3990 and 10", d -> d.put(13, 0, true));
            AT.shows("items then", x.count(1), 4000);
            AT.shows("the register keeps the box", x.about(13, 5), 9);
            AT.before(d -> Boundary.fill(d, vertical, 3991));
            AT.refused("3991 and 10", d -> d.put(13, 0, true));
            AT.before(d -> Boundary.fill(d, vertical, 4000));
            AT.refused("4000 and 10", d -> d.put(13, 0, true));
        }
        AT.before(x -> {
            Boundary.fill(x, false, 3998);
            x.open(false);
            x.close(0, 0, 0, 0);
        });
        Desk x = AT.allowed("3999 and an empty box", d -> d.put(0, 0, true));
        AT.shows("items then", x.count(1), 4000);
        AT.before(d -> {
            Boundary.fill(d, false, 3999);
            d.open(false);
            d.close(0, 0, 0, 0);
        });
        AT.refused("4000 and an empty box", d -> d.put(0, 0, true));
    }

    private static void copiesWithAllThatIsInThem() {
        AT.sentence("Promise 9", "a copy (with all that is in it) would make more than 4000 items");
        AT.before(x -> Boundary.fill(x, false, 3900));
        Desk x = AT.allowed("3900 and 100, most of them inside boxes", d -> d.put(14, 0, true));
        AT.shows("items then", x.count(1), 4000);
        AT.before(d -> Boundary.fill(d, false, 3901));
        AT.refused("3901 and 100", d -> d.put(14, 0, true));
        AT.before(d -> Boundary.fill(d, false, 3980));
        AT.refused("3980 and 100, 19 of them in its own list", d -> d.put(14, 0, true));
        Desk y = AT.desk();
        y.close(0, 0, 0, 0);
        y.open(false);
        AT.shows("more than half of all", y.put(0, 0, true) ? 1 : 0, 0);
        AT.shows("nothing joined", y.count(1), 3981);
    }

    private static void movesAtTheFullDesk() {
        AT.sentence("Promise 9", "The box of register k joins the innermost list (4000 items are no matter then)");
        for (boolean vertical : Boundary.KINDS) {
            AT.before(x -> Boundary.fill(x, vertical, 4000));
            Desk x = AT.allowed("4000", d -> d.put(14, 5, false));
            AT.shows("items", x.count(1), 4000);
            AT.shows("the register", x.about(14, 0), 0);
        }
    }

    private static void unboxAtTheFullDesk() {
        AT.sentence("Promise 10", "false if no list is open, there is no such register, it is void,"
                + " or its box is of the other kind (4000 items are no matter)");
        AT.before(x -> Boundary.fill(x, false, 4000));
        Desk x = AT.allowed("4000", d -> d.unbox(14));
        AT.shows("the box itself is no more", x.count(1), 3999);
        AT.shows("so there is room for one", x.kern(1) ? 1 : 0, 1);
        AT.shows("and no more", x.kern(1) ? 1 : 0, 0);
        AT.shows("items", x.count(1), 4000);
    }

    private static void closeInPlaceOfWhatWasThere() {
        AT.sentence("Promise 8", "comes into register k in place of what was there");
        Desk x = AT.desk();
        x.open(true);
        x.kern(1);
        x.kern(2);
        x.close(0, 0, 0, 7);
        AT.shows("items", x.count(1), 3);
        x.open(false);
        x.kern(9);
        x.close(0, 0, 0, 7);
        AT.shows("kind", x.about(7, 0), 1);
        AT.sizes("the new one", x, 7, 9, 0, 0, 1, 1);
        AT.shows("the old one's items are gone", x.count(1), 2);
        x.open(false);
        x.put(7, 0, true);
        x.put(7, 0, false);
        x.close(0, 0, 0, 7);
        AT.sizes("made of what was there", x, 7, 18, 0, 0, 2, 4);
        AT.shows("items at the end", x.count(1), 5);
    }

    private static void closeTellsWidthOrHeight() {
        AT.sentence("Promise 8", "Its width (an hbox) or height");
        AT.before(x -> {
            x.open(false);
            x.rule(3, 5, 7, 0);
        });
        AT.answers("an hbox", 3, x -> x.close(0, 0, MAX, 0));
        AT.before(x -> {
            x.open(true);
            x.rule(3, 5, 7, 0);
        });
        AT.answers("a vbox", 5, x -> x.close(0, 0, MAX, 0));
    }

    private static void putOfAVoidRegister() {
        AT.sentence("Promise 9", "false if .. it is void");
        AT.before(x -> {
            Boundary.box(x, false, 1, 2, 3);
            x.open(false);
        });
        AT.refused("never filled", x -> x.put(1, 0, false));
        AT.refused("never filled, a copy", x -> x.put(1, 0, true));
        AT.before(x -> {
            Boundary.box(x, false, 1, 2, 3);
            x.open(false);
            x.put(0, 0, false);
        });
        AT.refused("after put", x -> x.put(0, 0, false));
        AT.refused("after put, a copy", x -> x.put(0, 0, true));
        AT.before(x -> {
            Boundary.box(x, false, 1, 2, 3);
            x.open(false);
            x.unbox(0);
        });
        AT.refused("after unbox", x -> x.put(0, 0, false));
        AT.refused("after unbox, a copy", x -> x.put(0, 0, true));
    }

    private static void putLeavesTheRegisterVoidOrKeepsTheBox() {
        AT.sentence("Promise 9", "the register is void then, or, if it copies, keeps the box and a copy joins");
        for (boolean vertical : Boundary.KINDS) {
            AT.before(x -> {
                Boundary.box(x, vertical, 1, 2, 3);
                x.open(true);
            });
            Desk x = AT.allowed("moved", d -> d.put(0, -6, false));
            AT.sizes("moved", x, 0, 0, 0, 0, 0, 0);
            AT.shows("moved: items", x.count(1), 2);
            x.close(0, 0, MAX, 1);
            AT.shows("moved: kind", x.item(1, 0, 0), vertical ? 3 : 2);
            AT.shows("moved: shift", x.item(1, 0, 4), -6);
            Desk y = AT.allowed("copied", d -> d.put(0, -6, true));
            AT.sizes("copied", y, 0, 1, 2, 3, 1, 1);
            AT.shows("copied: items", y.count(1), 4);
            y.close(0, 0, MAX, 1);
            AT.shows("copied: kind", y.item(1, 0, 0), vertical ? 3 : 2);
            AT.shows("copied: shift", y.item(1, 0, 4), -6);
        }
    }

    private static void copiesAreApart() {
        AT.sentence("Promise 9", "keeps the box and a copy joins (so a change of one is none of the other)");
        Desk x = AT.desk();
        x.open(false);
        x.glue(5, 1, 0, 1);
        x.close(2, 20, 0, 0);
        x.open(false);
        x.put(0, 0, true);
        x.size(0, 0, 99);
        x.close(0, 0, 0, 1);
        AT.widths("the copy", x, 1, 20);
        AT.shows("the box", x.about(0, 1), 99);
        x.open(false);
        x.unbox(0);
        x.kern(1);
        x.close(2, 7, 0, 0);
        AT.widths("the list of the box", x, 0, 6, 1);
        AT.sizes("the copy has its list", x, 1, 20, 0, 0, 1, 2);
    }

    private static void unboxOfAVoidRegister() {
        AT.sentence("Promise 10", "false if .. it is void");
        AT.before(x -> {
            Boundary.box(x, false, 1, 2, 3);
            x.open(false);
        });
        AT.refused("never filled", x -> x.unbox(1));
        AT.before(x -> {
            Boundary.box(x, false, 1, 2, 3);
            x.open(false);
            x.unbox(0);
        });
        AT.refused("after unbox", x -> x.unbox(0));
        AT.before(x -> {
            Boundary.box(x, false, 1, 2, 3);
            x.open(false);
            x.put(0, 0, false);
        });
        AT.refused("after put", x -> x.unbox(0));
    }

    private static void unboxOfTheOtherKind() {
        AT.sentence("Promise 10", "false if .. its box is of the other kind");
        for (boolean ofBox : Boundary.KINDS) {
            for (boolean ofList : Boundary.KINDS) {
                AT.before(x -> {
                    Boundary.box(x, ofBox, 1, 2, 3);
                    x.open(!ofList);
                    x.open(ofList);
                });
                String what = "vertical box " + ofBox + ", vertical list " + ofList;
                if (ofBox == ofList) {
                    AT.allowed(what, x -> x.unbox(0));
                } else {
                    AT.refused(what, x -> x.unbox(0));
                }
            }
        }
    }

    private static void unboxInOrder() {
        AT.sentence("Promise 10", "The items .. join the innermost list, in order; the register is void then");
        for (boolean vertical : Boundary.KINDS) {
            Desk x = AT.desk();
            Boundary.box(x, false, 30, 0, 0);
            x.open(vertical);
            x.kern(10);
            x.penalty(20);
            x.put(0, 5, false);
            x.glue(40, 0, 0, 0);
            x.close(0, 0, 0, 0);
            x.open(vertical);
            x.kern(1);
            AT.shows("unbox", x.unbox(0) ? 1 : 0, 1);
            AT.shows("void", x.about(0, 0), 0);
            x.kern(2);
            x.close(0, 0, 0, 0);
            AT.widths("in order", x, 0, 1, 10, 20, 30, 40, 2);
            AT.shows("a box inside stays a box", x.item(0, 3, 0), 2);
            AT.shows("with its shift", x.item(0, 3, 4), 5);
            AT.shows("with all inside", x.about(0, 5), 7);
        }
    }

    private static void unboxOfAnEmptyBox() {
        AT.sentence("Promise 10", "The items of the box .. join (of an empty list: none)");
        for (boolean vertical : Boundary.KINDS) {
            AT.before(x -> {
                x.open(vertical);
                x.close(2, 9, 0, 0);
                x.open(vertical);
            });
            Desk x = AT.allowed("empty", d -> d.unbox(0));
            AT.shows("items", x.count(1), 0);
            AT.shows("void", x.about(0, 0), 0);
            AT.shows("nothing joined", x.close(0, 0, 0, 0), 0);
            AT.sizes("nothing joined", x, 0, 0, 0, 0, 0, 0);
        }
    }

    private static void whichOfSize() {
        AT.sentence("Promise 11", "which 0 width, 1 height, 2 depth: true; false if there is no such .. which");
        for (boolean vertical : Boundary.KINDS) {
            AT.before(x -> Boundary.box(x, vertical, 7, 8, 9));
            AT.sizes("width", AT.allowed("which 0", x -> x.size(0, 0, -4)), 0, -4, 8, 9, 1, 1);
            AT.sizes("height", AT.allowed("which 1", x -> x.size(0, 1, -4)), 0, 7, -4, 9, 1, 1);
            AT.sizes("depth", AT.allowed("which 2", x -> x.size(0, 2, -4)), 0, 7, 8, -4, 1, 1);
            int[] none = {-1, 3, Integer.MIN_VALUE, Integer.MAX_VALUE};
            for (int which : none) {
                AT.refused("which " + which, x -> x.size(0, which, -4));
            }
        }
    }

    private static void sizeOfAVoidRegister() {
        AT.sentence("Promise 11", "false if .. it is void");
        AT.before(x -> {
            Boundary.box(x, false, 7, 8, 9);
            x.open(false);
            x.put(0, 0, false);
        });
        for (int w = 0; w < 3; w++) {
            int which = w;
            AT.refused("after put, which " + w, x -> x.size(0, which, 1));
            AT.refused("never filled, which " + w, x -> x.size(15, which, 1));
        }
    }

    private static void sizeDoesNotLookAtTheList() {
        AT.sentence("Promise 11", "(Its list is not looked at.)");
        for (boolean vertical : Boundary.KINDS) {
            Desk x = AT.desk();
            x.open(vertical);
            x.glue(5, 1, 0, 1);
            x.kern(3);
            x.close(2, 20, 0, 0);
            x.size(0, 0, MAX);
            x.size(0, 1, -MAX);
            x.size(0, 2, 1);
            AT.sizes("changed", x, 0, MAX, -MAX, 1, 2, 2);
            AT.widths("the glue stays as it is set", x, 0, 17, 3);
            x.open(vertical);
            x.unbox(0);
            AT.shows("the items have their own widths", x.close(0, 0, 0, 0), 8);
        }
    }

    private static void whatOfAbout() {
        AT.sentence("Promise 12", "IndexOutOfBoundsException if there is no such .. what");
        AT.before(x -> {
            Boundary.box(x, false, 7, 8, 9);
            x.open(true);
            x.put(0, 1, true);
            x.close(0, 0, MAX, 1);
        });
        int[] hbox = {1, 7, 8, 9, 1, 1};
        int[] vbox = {2, 8, 8, 9, 1, 2};
        for (int w = 0; w < 6; w++) {
            int what = w;
            AT.answers("an hbox, what " + w, hbox[w], x -> x.about(0, what));
            AT.answers("a vbox, what " + w, vbox[w], x -> x.about(1, what));
        }
        int[] none = {-1, 6, Integer.MIN_VALUE, Integer.MAX_VALUE};
        for (int what : none) {
            AT.changesNothing("an hbox, what " + what, Boundary.NO_INDEX, x -> x.about(0, what));
            AT.changesNothing("a vbox, what " + what, Boundary.NO_INDEX, x -> x.about(1, what));
            AT.changesNothing("void, what " + what, Boundary.NO_INDEX, x -> x.about(2, what));
        }
    }

    private static void aboutAVoidRegister() {
        AT.sentence("Promise 12", "0 void .. 1 width, 2 height, 3 depth (0 if void)");
        AT.before(x -> {
            Boundary.box(x, false, 7, 8, 9);
            x.open(false);
            x.unbox(0);
        });
        for (int w = 0; w < 6; w++) {
            int what = w;
            AT.answers("after unbox, what " + w, 0, x -> x.about(0, what));
            AT.answers("never filled, what " + w, 0, x -> x.about(15, what));
        }
    }

    private static void aboutCountsWithAllInside() {
        AT.sentence("Promise 12", "4 how many items its list has, 5 how many with all those inside boxes");
        Desk x = AT.desk();
        x.open(false);
        x.close(0, 0, 0, 0);
        AT.sizes("an empty box", x, 0, 0, 0, 0, 0, 0);
        x.open(true);
        x.put(0, 0, false);
        x.close(0, 0, 0, 0);
        AT.sizes("an empty box inside", x, 0, 0, 0, 0, 1, 1);
        x.open(false);
        x.put(0, 0, true);
        x.kern(0);
        x.put(0, 0, false);
        x.close(0, 0, 0, 0);
        AT.sizes("two of these and a kern", x, 0, 0, 0, 0, 3, 5);
    }

    private static void numbersOfItems() {
        AT.sentence("Promise 13", "item i (from 0) .. IndexOutOfBoundsException if there is no such .. item");
        for (int n = 0; n < 12; n++) {
            int items = n;
            AT.before(x -> {
                x.open(false);
                for (int i = 0; i < items; i++) {
                    x.kern(70 + i);
                }
                x.close(0, 0, 0, 0);
            });
            if (n > 0) {
                AT.answers(n + " items, the first", 70, x -> x.item(0, 0, 1));
                AT.answers(n + " items, the last", 69 + n, x -> x.item(0, items - 1, 1));
            }
            AT.changesNothing(n + " items, one before the first", Boundary.NO_INDEX, x -> x.item(0, -1, 1));
            AT.changesNothing(n + " items, one after the last", Boundary.NO_INDEX, x -> x.item(0, items, 1));
            AT.changesNothing(n + " items, far before", Boundary.NO_INDEX, x -> x.item(0, Integer.MIN_VALUE, 1));
            AT.changesNothing(n + " items, far after", Boundary.NO_INDEX, x -> x.item(0, Integer.MAX_VALUE, 1));
        }
    }

    /** A list with an item of each kind, in the order of their kinds. */
    private static void oneOfEach(Desk x) {
        Boundary.box(x, true, 30, 31, 32);
        x.open(false);
        x.put(0, 33, false);
        Boundary.box(x, false, 20, 21, 22);
        x.put(0, 23, false);
        x.close(0, 0, 0, 0);
        x.open(false);
        x.character(10, 11, 12);
        x.unbox(0);
        x.rule(40, 41, 42, 0);
        x.glue(50, 51, 2, 52);
        x.kern(60);
        x.penalty(70);
        x.close(0, 0, 0, 0);
    }

    private static final int[][] EACH = {{1, 10, 11, 12, 0, 0}, {3, 30, 31, 32, 33, 0}, {2, 20, 21, 22, 23, 0},
        {4, 40, 41, 42, 0, 0}, {5, 50, 0, 0, 51, 52}, {6, 60, 0, 0, 0, 0}, {7, 70, 0, 0, 0, 0}};

    private static void whatOfItem() {
        AT.sentence("Promise 13", "IndexOutOfBoundsException if there is no such .. what");
        AT.before(CallBoundariesTest::oneOfEach);
        int[] none = {-1, 6, Integer.MIN_VALUE, Integer.MAX_VALUE};
        for (int i = 0; i < EACH.length; i++) {
            int at = i;
            AT.answers("kind of item " + i, EACH[i][0], x -> x.item(0, at, 0));
            AT.answers("what 5 of item " + i, EACH[i][5], x -> x.item(0, at, 5));
            for (int what : none) {
                AT.changesNothing("item " + i + ", what " + what, Boundary.NO_INDEX, x -> x.item(0, at, what));
            }
        }
    }

    private static void itemTellsZeroForOthers() {
        AT.sentence("Promise 13", "(0 for others ..), 4 its shift, or the stretch of glue,"
                + " 5 the shrink of glue; 0 for others");
        AT.before(CallBoundariesTest::oneOfEach);
        Desk x = AT.desk();
        for (int i = 0; i < EACH.length; i++) {
            for (int what = 0; what < 6; what++) {
                AT.shows("item(0, " + i + ", " + what + ")", x.item(0, i, what), EACH[i][what]);
            }
        }
    }

    private static void itemOfAVoidRegister() {
        AT.sentence("Promise 13", "IndexOutOfBoundsException if there is no such .. item (of a void register)");
        AT.before(x -> {
            Boundary.box(x, false, 7, 8, 9);
            x.open(false);
            x.put(0, 0, false);
        });
        AT.changesNothing("after put", Boundary.NO_INDEX, x -> x.item(0, 0, 0));
        AT.changesNothing("never filled", Boundary.NO_INDEX, x -> x.item(15, 0, 0));
    }

    private static void whatOfCount() {
        AT.sentence("Promise 14", "what 0: lists open, 1: items in all .. NONE for another what");
        AT.before(x -> {
            Boundary.box(x, false, 7, 8, 9);
            x.open(false);
            x.open(true);
            x.open(true);
        });
        AT.answers("what 0", 3, x -> x.count(0));
        AT.answers("what 1", 2, x -> x.count(1));
        int[] none = {-1, 2, Integer.MIN_VALUE, Integer.MAX_VALUE};
        for (int what : none) {
            AT.changesNothing("what " + what, "-1", x -> x.count(what));
            AT.shows("NONE", AT.desk().count(what), BoxDesk.NONE);
        }
    }

    private static void countGoesUpAndDown() {
        AT.sentence("Promise 14", "items in all (in lists and registers, the registers' boxes too)");
        Desk x = AT.desk();
        x.open(false);
        AT.shows("an open list is no item", x.count(1), 0);
        x.character(1, 1, 1);
        x.rule(1, 1, 1, 0);
        x.glue(1, 1, 1, 1);
        x.kern(1);
        x.penalty(1);
        AT.shows("five items in a list", x.count(1), 5);
        x.close(0, 0, 0, 0);
        AT.shows("and their box", x.count(1), 6);
        x.open(false);
        x.put(0, 0, true);
        AT.shows("and a copy", x.count(1), 12);
        x.put(0, 0, false);
        AT.shows("the box itself in the list", x.count(1), 12);
        x.open(true);
        x.kern(1);
        AT.shows("an item in a list inside", x.count(1), 13);
        x.close(0, 0, 0, 0);
        AT.shows("and its box", x.count(1), 14);
        x.close(0, 0, 0, 1);
        AT.shows("and the box around the copies", x.count(1), 15);
        x.open(false);
        x.unbox(1);
        AT.shows("which is gone again", x.count(1), 14);
        x.open(false);
        x.close(0, 0, 0, 0);
        AT.shows("an empty box in place of one with an item", x.count(1), 13);
        x.close(0, 0, 0, 0);
        AT.shows("the copies' box in place of the empty one", x.count(1), 13);
        AT.shows("lists", x.count(0), 0);
    }
}
