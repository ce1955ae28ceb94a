/** The boundaries of SIZE, LISTS, REGISTERS, NEAR and of the items, a method for each sentence. */
public final class TermsBoundariesTest {
    private static final int MAX = Boundary.MAX;
    private static final String SIZE = "A SIZE is from -1073741823 to 1073741823";
    private static final Checks CHECKS = new Checks();
    private static final Boundary AT = new Boundary(CHECKS);

    private interface SizedCall {
        boolean on(Desk x, int v);
    }

    private TermsBoundariesTest() {
    }

    public static void main(String[] args) {
        sizesOfACharacter();
        sizesOfARule();
        sizesOfARuleThatRun();
        widthOfGlue();
        stretchAndShrinkOfGlue();
        widthOfAKern();
        numberOfAPenaltyIsAnyInt();
        amountOfClose();
        limitOfClose();
        shiftOfPut();
        sizesOfABox();
        hundredLists();
        itemsJoinTheInnermostList();
        closedListsGiveRoom();
        registersOfClose();
        registersOfPutAndUnbox();
        registersOfSizeAboutAndItem();
        registersAreVoidAtFirst();
        nearRoundsHalvesUp();
        nearBelowZeroIsAsAbove();
        nearOfTheGreatestNumbers();
        charactersInHorizontalListsAlone();
        runningByTheKindOfList();
        runningHasNoOtherBits();
        ordersOfGlue();
        nothingOfGlueBelowZeroButTheWidth();
        specs();
        CHECKS.end();
    }

    private static int lastItem(Desk x, int what) {
        x.close(2, 0, MAX, 5);
        return x.item(5, x.about(5, 4) - 1, what);
    }

    /** Every SIZE is allowed and arrives; what is no SIZE is refused. */
    private static void sized(String what, SizedCall call, Boundary.Call shown) {
        for (int v : Boundary.SIZES) {
            Desk x = AT.allowed(what + " " + v, d -> call.on(d, v));
            AT.shows(what + " " + v + " arrives", shown.on(x), v);
        }
        for (int v : Boundary.NO_SIZES) {
            AT.refused(what + " " + v, d -> call.on(d, v));
        }
    }

    private static void sizesOfACharacter() {
        AT.sentence("Promise 3", SIZE + " .. false if .. one of these is no SIZE");
        AT.before(x -> x.open(false));
        sized("character width", (x, v) -> x.character(v, 1, 2), x -> lastItem(x, 1));
        sized("character height", (x, v) -> x.character(1, v, 2), x -> lastItem(x, 2));
        sized("character depth", (x, v) -> x.character(1, 2, v), x -> lastItem(x, 3));
    }

    private static void sizesOfARule() {
        AT.sentence("Promise 4", SIZE + " .. False if .. one of these is no SIZE");
        for (boolean vertical : Boundary.KINDS) {
            AT.before(x -> x.open(vertical));
            sized("rule width", (x, v) -> x.rule(v, 0, 0, 0), x -> lastItem(x, 1));
            sized("rule height", (x, v) -> x.rule(0, v, 0, 0), x -> lastItem(x, 2));
            sized("rule depth", (x, v) -> x.rule(0, 0, v, 0), x -> lastItem(x, 3));
        }
    }

    private static void runs(String what, SizedCall call, int told) {
        for (int v : Boundary.SIZES) {
            Desk x = AT.allowed(what + " " + v, d -> call.on(d, v));
            AT.shows(what + " " + v + " is told as running", lastItem(x, told), Boundary.RUNS);
        }
        for (int v : Boundary.NO_SIZES) {
            AT.refused(what + " " + v, d -> call.on(d, v));
        }
    }

    private static void sizesOfARuleThatRun() {
        AT.sentence("Promise 4", "its own number is of no matter then, but must be a SIZE, too");
        AT.before(x -> x.open(true));
        runs("running width", (x, v) -> x.rule(v, 0, 0, 1), 1);
        AT.before(x -> x.open(false));
        runs("running height", (x, v) -> x.rule(0, v, 0, 2), 2);
        runs("running depth", (x, v) -> x.rule(0, 0, v, 4), 3);
        runs("running height of both", (x, v) -> x.rule(0, v, 0, 6), 2);
        runs("running depth of both", (x, v) -> x.rule(0, 0, v, 6), 3);
    }

    private static void widthOfGlue() {
        AT.sentence("Promise 5", SIZE + " .. False if .. something is not so");
        for (boolean vertical : Boundary.KINDS) {
            AT.before(x -> x.open(vertical));
            sized("glue width", (x, v) -> x.glue(v, 0, 0, 0), x -> lastItem(x, 1));
        }
    }

    private static void stretchAndShrinkOfGlue() {
        AT.sentence("Promise 5", SIZE + " .. (none of them below 0 but the width)");
        int[] good = {0, 1, MAX - 1, MAX};
        int[] bad = {-1, -MAX, -MAX - 1, MAX + 1, Integer.MIN_VALUE, Integer.MAX_VALUE};
        for (boolean vertical : Boundary.KINDS) {
            AT.before(x -> x.open(vertical));
            for (int v : good) {
                Desk x = AT.allowed("stretch " + v, d -> d.glue(0, v, 0, 0));
                AT.shows("stretch " + v + " arrives", lastItem(x, 4), v);
                Desk y = AT.allowed("shrink " + v, d -> d.glue(0, 0, 0, v));
                AT.shows("shrink " + v + " arrives", lastItem(y, 5), v);
            }
            for (int v : bad) {
                AT.refused("stretch " + v, d -> d.glue(0, v, 0, 0));
                AT.refused("shrink " + v, d -> d.glue(0, 0, 0, v));
            }
        }
    }

    private static void widthOfAKern() {
        AT.sentence("Promise 6", SIZE + " .. False if .. width is no SIZE");
        for (boolean vertical : Boundary.KINDS) {
            AT.before(x -> x.open(vertical));
            sized("kern", (x, v) -> x.kern(v), x -> lastItem(x, 1));
        }
    }

    private static void numberOfAPenaltyIsAnyInt() {
        AT.sentence("Promise 7", "False if no list is open, or there are 4000 items (so no number is too large)");
        for (boolean vertical : Boundary.KINDS) {
            AT.before(x -> x.open(vertical));
            for (int p : Boundary.NO_SIZES) {
                Desk x = AT.allowed("penalty " + p, d -> d.penalty(p));
                AT.shows("penalty " + p + " arrives", lastItem(x, 1), p);
                AT.shows("penalty " + p + " is no width", x.about(5, vertical ? 2 : 1), 0);
            }
        }
    }

    private static void amountOfClose() {
        AT.sentence("Promise 8", SIZE + " .. IllegalArgumentException if .. amount .. no SIZE");
        for (boolean vertical : Boundary.KINDS) {
            AT.before(x -> x.open(vertical));
            for (int v : Boundary.SIZES) {
                AT.answers("spec 0, amount " + v, 0, x -> x.close(0, v, 0, 0));
                AT.answers("spec 1, amount " + v, v, x -> x.close(1, v, 0, 0));
                AT.answers("spec 2, amount " + v, v, x -> x.close(2, v, 0, 0));
            }
            AT.before(x -> {
                Boundary.box(x, false, 7, 8, 9);
                x.open(vertical);
            });
            for (int v : Boundary.NO_SIZES) {
                for (int s = 0; s < 3; s++) {
                    int spec = s;
                    AT.changesNothing("spec " + s + ", amount " + v, Boundary.NO_ARGUMENT, x -> x.close(spec, v, 0, 0));
                }
            }
        }
    }

    private static void limitOfClose() {
        AT.sentence("Promise 8", SIZE + " .. IllegalArgumentException if .. limit no SIZE");
        for (boolean vertical : Boundary.KINDS) {
            AT.before(x -> {
                x.open(vertical);
                x.rule(0, 0, -MAX, 0);
            });
            for (int v : Boundary.SIZES) {
                Desk x = AT.answers("limit " + v, 0, d -> d.close(0, 0, v, 0));
                AT.shows("depth with limit " + v, x.about(0, 3), vertical ? -MAX : 0);
            }
            for (int v : Boundary.NO_SIZES) {
                AT.changesNothing("limit " + v, Boundary.NO_ARGUMENT, x -> x.close(0, 0, v, 0));
            }
        }
    }

    private static void shiftOfPut() {
        AT.sentence("Promise 9", SIZE + " .. false if .. shift is no SIZE");
        for (boolean vertical : Boundary.KINDS) {
            for (boolean copies : Boundary.KINDS) {
                AT.before(x -> {
                    Boundary.box(x, false, 0, 0, 0);
                    x.open(vertical);
                });
                sized("shift", (x, v) -> x.put(0, v, copies), x -> lastItem(x, 4));
            }
        }
    }

    private static void sizesOfABox() {
        AT.sentence("Promise 11", SIZE + " .. false if .. v no SIZE");
        for (boolean vertical : Boundary.KINDS) {
            AT.before(x -> Boundary.box(x, vertical, 7, 8, 9));
            for (int w = 0; w < 3; w++) {
                int which = w;
                sized("size " + which, (x, v) -> x.size(0, which, v), x -> x.about(0, which + 1));
            }
        }
    }

    private static void openMany(Desk x, int lists) {
        for (int i = 0; i < lists; i++) {
            x.open(i % 3 == 0);
        }
    }

    private static void hundredLists() {
        AT.sentence("Promise 2", "Up to 100 LISTS are open .. true; false if 100 are open");
        for (boolean vertical : Boundary.KINDS) {
            AT.before(x -> openMany(x, 99));
            Desk x = AT.allowed("the 100th list", d -> d.open(vertical));
            AT.shows("lists", x.count(0), 100);
            AT.before(d -> openMany(d, 100));
            AT.refused("the 101st list", d -> d.open(vertical));
            Desk y = AT.desk();
            y.open(vertical);
            for (int i = 99; i >= 0; i--) {
                y.close(0, 0, 0, 0);
                AT.shows("kind of list " + i, y.about(0, 0), i % 3 == 0 ? 2 : 1);
            }
            AT.shows("lists at the end", y.count(0), 0);
        }
    }

    private static void itemsJoinTheInnermostList() {
        AT.sentence("Terms", "items join the innermost one");
        Desk x = AT.desk();
        x.open(false);
        x.kern(1);
        x.open(true);
        x.kern(2);
        x.open(false);
        x.kern(3);
        AT.shows("items", x.count(1), 3);
        x.close(0, 0, 0, 3);
        x.kern(20);
        x.close(0, 0, 0, 2);
        x.kern(10);
        x.close(0, 0, 0, 1);
        AT.widths("the innermost", x, 3, 3);
        AT.widths("the one around it", x, 2, 2, 20);
        AT.widths("the outermost", x, 1, 1, 10);
    }

    private static void closedListsGiveRoom() {
        AT.sentence("Promise 8", "the list is open no more (so another can be opened in its place)");
        AT.before(x -> {
            openMany(x, 100);
            x.close(0, 0, 0, 0);
        });
        Desk x = AT.allowed("a list in its place", d -> d.open(true));
        AT.shows("lists", x.count(0), 100);
        AT.before(d -> {
            openMany(d, 100);
            d.close(0, 0, 0, 0);
            d.open(true);
        });
        AT.refused("and no other", d -> d.open(true));
    }

    private static void registersOfClose() {
        AT.sentence("Promise 8", "REGISTERS 0 .. 15 .. IllegalArgumentException if .. k no register");
        AT.before(x -> {
            x.open(false);
            x.kern(6);
        });
        for (int r = 0; r < 16; r++) {
            int k = r;
            Desk x = AT.answers("register " + k, 6, d -> d.close(0, 0, 0, k));
            for (int other = 0; other < 16; other++) {
                AT.shows("about(" + other + ", 0)", x.about(other, 0), other == k ? 1 : 0);
            }
        }
        for (int k : Boundary.NO_REGISTERS) {
            AT.changesNothing("register " + k, Boundary.NO_ARGUMENT, x -> x.close(0, 0, 0, k));
        }
    }

    private static void hboxesInAllRegisters(Desk x) {
        for (int k = 0; k < 16; k++) {
            x.open(false);
            x.kern(100 + k);
            x.close(0, 0, 0, k);
        }
        x.open(false);
    }

    private static void registersOfPutAndUnbox() {
        AT.sentence("Promises 9 and 10", "REGISTERS 0 .. 15 .. false if .. there is no such register");
        AT.before(TermsBoundariesTest::hboxesInAllRegisters);
        for (int k = 0; k < 16; k += 15) {
            int register = k;
            Desk x = AT.allowed("put " + k, d -> d.put(register, 0, false));
            AT.shows("put " + k + ": void", x.about(k, 0), 0);
            AT.shows("put " + k + ": the box", lastItem(x, 1), 100 + k);
            Desk y = AT.allowed("put a copy of " + k, d -> d.put(register, 0, true));
            AT.shows("put a copy of " + k + ": kept", y.about(k, 1), 100 + k);
            Desk z = AT.allowed("unbox " + k, d -> d.unbox(register));
            AT.shows("unbox " + k + ": void", z.about(k, 0), 0);
            AT.shows("unbox " + k + ": the item", lastItem(z, 1), 100 + k);
        }
        for (int k : Boundary.NO_REGISTERS) {
            AT.refused("put " + k, x -> x.put(k, 0, false));
            AT.refused("put a copy of " + k, x -> x.put(k, 0, true));
            AT.refused("unbox " + k, x -> x.unbox(k));
        }
    }

    private static void registersOfSizeAboutAndItem() {
        AT.sentence("Promises 11 to 13", "REGISTERS 0 .. 15 .. if there is no such register");
        AT.before(TermsBoundariesTest::hboxesInAllRegisters);
        for (int k = 0; k < 16; k += 15) {
            int register = k;
            Desk x = AT.allowed("size " + k, d -> d.size(register, 0, -5));
            AT.shows("size " + k, x.about(k, 1), -5);
            AT.shows("its neighbour", x.about(k == 0 ? 1 : 14, 1), k == 0 ? 101 : 114);
            AT.answers("about " + k, 100 + k, d -> d.about(register, 1));
            AT.answers("item of " + k, 100 + k, d -> d.item(register, 0, 1));
        }
        for (int k : Boundary.NO_REGISTERS) {
            AT.refused("size " + k, x -> x.size(k, 0, 1));
            AT.changesNothing("about " + k, Boundary.NO_INDEX, x -> x.about(k, 0));
            AT.changesNothing("item of " + k, Boundary.NO_INDEX, x -> x.item(k, 0, 0));
        }
    }

    private static void registersAreVoidAtFirst() {
        AT.sentence("Promise 1", "No list is open, all registers are void");
        Desk x = AT.desk();
        AT.shows("lists", x.count(0), 0);
        AT.shows("items", x.count(1), 0);
        for (int k = 0; k < 16; k++) {
            for (int what = 0; what < 6; what++) {
                AT.shows("about(" + k + ", " + what + ")", x.about(k, what), 0);
            }
        }
        for (int k = 0; k < 16; k++) {
            int register = k;
            AT.changesNothing("item of " + k, Boundary.NO_INDEX, d -> d.item(register, 0, 0));
            AT.refused("size of " + k, d -> d.size(register, 0, 1));
        }
        AT.changesNothing("close", Boundary.NO_LIST, d -> d.close(0, 0, 0, 0));
    }

    /** An hbox of two glues with these stretches and shrinks, its excess this one. */
    private static void shares(int first, int second, int excess, int... due) {
        Desk x = AT.desk();
        x.open(false);
        x.glue(100, first, 0, first);
        x.glue(200, second, 0, second);
        x.close(1, excess, 0, 0);
        AT.widths(first + " and " + second + ", excess " + excess, x, 0, 100 + due[0], 200 + due[1]);
    }

    private static void nearRoundsHalvesUp() {
        AT.sentence("Terms", "NEAR(a, b), b above 0: (2 * a + b) / (2 * b), rounded down");
        shares(1, 1, 1, 1, 0);
        shares(1, 1, 3, 2, 1);
        shares(499, 501, 1, 0, 1);
        shares(500, 500, 1, 1, 0);
        shares(501, 499, 1, 1, 0);
        shares(1, 2, 1, 0, 1);
        shares(1, 2, 2, 1, 1);
        shares(2, 1, 1, 1, 0);
        shares(1, 4, 2, 0, 2);
        shares(1, 4, 3, 1, 2);
        shares(3, 4, 5, 2, 3);
        shares(MAX / 2, MAX - MAX / 2, 1, 0, 1);
        shares(MAX - MAX / 2, MAX / 2, 1, 1, 0);
    }

    private static void nearBelowZeroIsAsAbove() {
        AT.sentence("Terms", "NEAR of a number below 0 is that of the number without its sign, and below 0 then");
        shares(1, 1, -1, -1, 0);
        shares(499, 501, -1, 0, -1);
        shares(500, 500, -1, -1, 0);
        shares(501, 499, -1, -1, 0);
        shares(1, 2, -1, 0, -1);
        shares(1, 2, -2, -1, -1);
        shares(2, 1, -1, -1, 0);
        shares(1, 4, -2, 0, -2);
        shares(1, 4, -3, -1, -2);
        shares(3, 4, -5, -2, -3);
        shares(MAX / 2, MAX - MAX / 2, -1, 0, -1);
        shares(MAX - MAX / 2, MAX / 2, -1, -1, 0);
    }

    private static void nearOfTheGreatestNumbers() {
        AT.sentence("Terms", "NEAR(E * C, S) less NEAR(E * B, S) (with no wrap-around of the product)");
        Desk x = AT.desk();
        x.open(false);
        x.kern(-MAX);
        x.glue(0, MAX / 3, 1, 0);
        x.glue(0, MAX / 3, 1, 0);
        x.glue(0, MAX / 3, 1, 0);
        x.close(2, MAX, 0, 0);
        AT.widths("an excess of 2147483646", x, 0, -MAX, 715827882, 715827882, 715827882);
        Desk y = AT.desk();
        y.open(true);
        y.kern(-MAX);
        y.glue(0, 1, 3, 0);
        y.glue(0, MAX - 1, 3, 0);
        y.close(2, MAX, 0, 0);
        AT.widths("an excess of 2147483646, 1 and the rest", y, 0, -MAX, 2, 2147483644);
        Desk z = AT.desk();
        z.open(false);
        z.kern(MAX);
        z.glue(0, 0, 0, MAX - 1);
        z.glue(0, 0, 3, 1);
        z.close(2, -MAX, 0, 0);
        AT.widths("an excess of -2147483646", z, 0, MAX, 1 - MAX, -1);
    }

    private static void charactersInHorizontalListsAlone() {
        AT.sentence("Promise 3", "a CHARACTER (in horizontal lists alone) .. false if .. it is vertical");
        AT.before(x -> {
            x.open(true);
            x.open(false);
        });
        AT.allowed("horizontal in vertical", x -> x.character(1, 2, 3));
        AT.before(x -> x.open(true));
        AT.refused("vertical", x -> x.character(1, 2, 3));
        AT.before(x -> {
            x.open(false);
            x.character(1, 2, 3);
            x.open(true);
            x.kern(4);
        });
        AT.refused("vertical in horizontal", x -> x.character(1, 2, 3));
    }

    private static void runningByTheKindOfList() {
        AT.sentence("Promise 4", "False if .. running has .. such as this list can't have");
        for (int r = 0; r < 8; r++) {
            int running = r;
            for (boolean vertical : Boundary.KINDS) {
                AT.before(x -> x.open(vertical));
                boolean fits = (running & (vertical ? 6 : 1)) == 0;
                String what = (vertical ? "vertical" : "horizontal") + ", running " + r;
                if (!fits) {
                    AT.refused(what, x -> x.rule(2, 3, 4, running));
                    continue;
                }
                Desk x = AT.allowed(what, d -> d.rule(2, 3, 4, running));
                x.close(2, 0, MAX, 0);
                AT.shows(what + ": width", x.item(0, 0, 1), (running & 1) != 0 ? Boundary.RUNS : 2);
                AT.shows(what + ": height", x.item(0, 0, 2), (running & 2) != 0 ? Boundary.RUNS : 3);
                AT.shows(what + ": depth", x.item(0, 0, 3), (running & 4) != 0 ? Boundary.RUNS : 4);
            }
        }
    }

    private static void runningHasNoOtherBits() {
        AT.sentence("Promise 4", "False if .. running has other bits");
        int[] other = {8, 9, 10, 12, 14, 16, 64, -1, -8, -2, 1 << 30, Integer.MIN_VALUE, Integer.MAX_VALUE};
        for (boolean vertical : Boundary.KINDS) {
            AT.before(x -> x.open(vertical));
            for (int running : other) {
                AT.refused("running " + running, x -> x.rule(2, 3, 4, running));
            }
        }
    }

    private static void ordersOfGlue() {
        AT.sentence("Promise 5", "a STRETCH of an ORDER 0 .. 3");
        int[] none = {-1, 4, Integer.MIN_VALUE, Integer.MAX_VALUE};
        for (boolean vertical : Boundary.KINDS) {
            AT.before(x -> x.open(vertical));
            for (int o = 0; o < 4; o++) {
                int order = o;
                AT.allowed("order " + o, x -> x.glue(1, 1, order, 1));
                AT.allowed("order " + o + " without a stretch", x -> x.glue(1, 0, order, 0));
            }
            for (int order : none) {
                AT.refused("order " + order, x -> x.glue(1, 1, order, 1));
                AT.refused("order " + order + " without a stretch", x -> x.glue(1, 0, order, 0));
            }
        }
    }

    private static void nothingOfGlueBelowZeroButTheWidth() {
        AT.sentence("Promise 5", "(none of them below 0 but the width)");
        AT.before(x -> x.open(false));
        Desk x = AT.allowed("width -1", d -> d.glue(-1, 0, 0, 0));
        AT.shows("width -1", x.close(0, 0, 0, 0), -1);
        AT.allowed("stretch 0", d -> d.glue(-1, 0, 1, 1));
        AT.allowed("shrink 0", d -> d.glue(-1, 1, 1, 0));
        AT.refused("stretch -1", d -> d.glue(-1, -1, 1, 1));
        AT.refused("shrink -1", d -> d.glue(-1, 1, 1, -1));
    }

    private static void specs() {
        AT.sentence("Promise 8", "NATURAL (SPEC 0), with so much more (1), or just so much (2) .."
                + " IllegalArgumentException if spec is not 0 .. 2");
        int[] none = {-1, 3, Integer.MIN_VALUE, Integer.MAX_VALUE};
        for (boolean vertical : Boundary.KINDS) {
            AT.before(x -> {
                x.open(vertical);
                x.kern(30);
            });
            AT.answers("spec 0", 30, x -> x.close(0, 12, 0, 0));
            AT.answers("spec 1", 42, x -> x.close(1, 12, 0, 0));
            AT.answers("spec 1, less", 18, x -> x.close(1, -12, 0, 0));
            AT.answers("spec 2", 12, x -> x.close(2, 12, 0, 0));
            AT.before(x -> {
                Boundary.box(x, false, 7, 8, 9);
                x.open(vertical);
                x.kern(30);
            });
            for (int spec : none) {
                AT.changesNothing("spec " + spec, Boundary.NO_ARGUMENT, x -> x.close(spec, 12, 0, 0));
            }
        }
    }
}
